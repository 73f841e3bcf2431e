import java.util.regex.Matcher;
import java.util.regex.Pattern;

/** Promises 15 to 31: telegrams. */
public final class TelegramTest {
    private static final int[] WRONG_NUMBERS = {-1, 1, 2, 32, Integer.MIN_VALUE, Integer.MAX_VALUE};

    public static void main(String[] args) {
        promise15();
        promise15Refusals();
        promise16();
        promise16Refusals();
        promise17();
        promise17Forged();
        promise17Refusals();
        promise18();
        promise18Refusals();
        promise19();
        promise20();
        promise20Refusals();
        promise21And22();
        promise23();
        promise24();
        promise25To28();
        promise29And30();
        promise31();
        Check.end("TelegramTest");
    }

    /** Root 0 has seven pages: telegram 0 with one and telegram 1 with six; root 1 has telegram 2 with two. */
    private static TurnipPages nearlyFull() {
        TurnipPages x = Make.roots(1, 2);
        Make.carve(x, 0, 5, "short");
        Make.carve(x, 0, 5, "0123456789".repeat(3) + "abcdef");
        Make.carve(x, 1, 5, "thirteensigns");
        return x;
    }

    private static TurnipPages full() {
        TurnipPages x = nearlyFull();
        Make.carve(x, 0, 0, "z");
        return x;
    }

    private static void promise15() {
        TurnipPages x = Make.roots(3, 0);
        Make.type(x, "aaaab7");
        Check.equal("15 first", x.carve(1, 9), 0);
        Check.equal("15 the message is empty", x.clearMessage(), 0);
        Check.equal("15 code", Look.code(x, 0), "4ab\\7");
        Check.equal("15 checksum", x.checksumOf(0), Make.sum("aaaab7"));
        Check.equal("15 root", x.rootOf(0), 1);
        Check.equal("15 rot", x.rotOf(0, 0), 0);
        Check.equal("15 pages", x.pageCount(0), 1);
        Check.equal("15 characters", x.carvedCharacters(), 6);
        Check.equal("15 a change", x.undoCount(), 3);
        Check.equal("15 second", Make.carve(x, 0, 0, "b"), 1);
        x.drop(1);
        Check.equal("15 numbers are not used again", Make.carve(x, 0, 0, "b"), 2);
        Check.equal("15 exactly eight pages", full().pagesIn(0), 8);
        TurnipPages longest = Make.roots(0);
        Make.carve(longest, 0, 0, "0123456789".repeat(4));
        Check.equal("15 the longest code", longest.codeLength(0) + " " + longest.pageCount(0), "80 7");
        TurnipPages many = Make.roots(0, 0, 0, 0);
        for (int i = 0; i < 32; i++) {
            Check.equal("15 one of 32", Make.carve(many, i % 4, i % 10, "m"), i);
        }
        Check.equal("15 32 telegrams", many.telegramCount(), 32);
        Make.type(many, "m");
        Check.equal("15 no 33rd", Check.answer(many, y -> y.carve(3, 0)), "throws UnsupportedOperationException");
    }

    private static void promise15Refusals() {
        for (int wrong : new int[] {-1, 3, 4, Integer.MIN_VALUE, Integer.MAX_VALUE}) {
            Check.noIndex("15 root " + wrong, Make::used, y -> y.carve(wrong, 0));
            Check.noIndex("15 root and priority " + wrong, Make::used, y -> y.carve(wrong, -1));
        }
        for (int wrong : new int[] {-1, 10, Integer.MIN_VALUE, Integer.MAX_VALUE}) {
            Check.badArgument("15 priority " + wrong, Make::used, y -> y.carve(0, wrong));
            Check.badArgument("15 priority before denials " + wrong, TelegramTest::full, y -> y.carve(0, wrong));
        }
        Check.noIndex("15 no roots", Make::fresh, y -> y.carve(0, 0));
        Check.denied("15 empty", () -> Make.roots(1), 2, 0, y -> y.carve(0, 0));
        Check.denied("15 empty, four telegrams", TelegramTest::full, 2, 4, y -> y.carve(0, 9));
        Check.denied("15 nine pages", () -> typed(full(), "q"), 1, 8, y -> y.carve(0, 0));
        Check.denied("15 two pages more", () -> typed(nearlyFull(), "thirteensigns"), 1, 8, y -> y.carve(0, 0));
        TurnipPages x = typed(full(), "kept");
        Check.answer(x, y -> y.carve(0, 0));
        Check.equal("15 the message of a refusal stays", x.carve(1, 0), 4);
        Check.equal("15 it is carved then", Look.code(x, 4), "kept");
    }

    private static TurnipPages typed(TurnipPages x, String text) {
        Make.type(x, text);
        return x;
    }

    private static void promise16() {
        TurnipPages x = Make.roots(5);
        Make.carve(x, 0, 3, "abcdefghijklmn");
        Check.equal("16 before", x.damage(0, 0, '~'), 'a');
        Check.equal("16 again", x.damage(0, 0, ' '), '~');
        Check.equal("16 last", x.damage(0, 13, 'x'), 'n');
        Check.equal("16 code", Look.code(x, 0), " bcdefghijklmx");
        Check.equal("16 the checksum stays", x.checksumOf(0), Make.sum("abcdefghijklmn"));
        Check.equal("16 a change each", x.undoCount(), 5);
        x.age(4);
        Check.equal("16 a rotten page", x.damage(0, 0, 'a'), ' ');
        Check.equal("16 the rot stays", x.rotOf(0, 0), 20);
        Check.equal("16 rotten code", Look.code(x, 0), "abcdefghijklmx");
    }

    private static void promise16Refusals() {
        for (int wrong : WRONG_NUMBERS) {
            Check.noElement("16 telegram " + wrong, Make::used, y -> y.damage(wrong, 0, 'q'));
            Check.noElement("16 telegram and all " + wrong, Make::used, y -> y.damage(wrong, -1, (char) 127));
        }
        for (int wrong : new int[] {-1, 7, 96, Integer.MIN_VALUE, Integer.MAX_VALUE}) {
            Check.noIndex("16 index " + wrong, Make::used, y -> y.damage(0, wrong, 'q'));
            Check.noIndex("16 index and character " + wrong, Make::used, y -> y.damage(0, wrong, (char) 31));
        }
        for (char wrong : new char[] {0, 31, 127, 0x2603, 65535}) {
            Check.badArgument("16 character " + (int) wrong, Make::used, y -> y.damage(0, 0, wrong));
        }
        Check.denied("16 the same", Make::used, 4, '4', y -> y.damage(0, 0, '4'));
        Check.denied("16 the same last", Make::used, 4, 'b', y -> y.damage(0, 6, 'b'));
    }

    private static void promise17() {
        TurnipPages x = Make.roots(5, 0);
        Make.carve(x, 0, 7, "abcdefghijklmn");
        x.age(3);
        Check.equal("17 pages", x.recarve(0), 2);
        Check.equal("17 rot of the first", x.rotOf(0, 0), 0);
        Check.equal("17 rot of the last", x.rotOf(0, 1), 0);
        Check.equal("17 code", Look.code(x, 0), "abcdefghijklmn");
        Check.equal("17 characters", x.carvedCharacters(), 14);
        Check.equal("17 telegrams", x.telegramCount(), 1);
        Check.equal("17 a change", x.undoCount(), 5);
        Check.equal("17 again", x.recarve(0), 2);
        Check.equal("17 a change even so", x.undoCount(), 6);
        x.writeTelegram(0);
        Check.equal("17 number, root and priority stay", Look.line(x), "#0@0!7 [abcdefghijkl]0 [mn]0");
    }

    private static void promise17Forged() {
        TurnipPages x = Make.roots(2);
        int shorter = Make.carveForged(x, 0, "aaaa", "aaaa");
        int sum = x.checksumOf(shorter);
        Check.equal("17 shorter", x.recarve(shorter), 1);
        Check.equal("17 shorter code", Look.code(x, shorter), "4a");
        Check.equal("17 the checksum stays", x.checksumOf(shorter), sum);
        int longer = Make.carveForged(x, 0, "8\\13\\18\\23\\2", "1".repeat(11) + "2".repeat(11));
        Check.equal("17 one page", x.pageCount(longer), 1);
        x.age(5);
        Check.equal("17 longer", x.recarve(longer), 2);
        Check.equal("17 longer code", Look.code(x, longer), "9\\1\\1\\19\\2\\2\\2");
        Check.equal("17 its rot", x.rotOf(longer, 0) + " " + x.rotOf(longer, 1), "0 0");
        Check.equal("17 the other's rot", x.rotOf(shorter, 0), 10);
        Check.equal("17 pages of the root", x.pagesIn(0), 3);
        Check.equal("17 readable", x.isReadable(longer), true);
        int fewer = Make.carveForged(x, 0, "aaaaaaaaaaaaa", "a".repeat(13));
        Check.equal("17 two pages", x.pageCount(fewer), 2);
        Check.equal("17 to one", x.recarve(fewer), 1);
        Check.equal("17 code of one", Look.code(x, fewer), "9a4a");
        Check.equal("17 no second page", Check.answer(x, y -> y.rotOf(fewer, 1)), "throws IndexOutOfBoundsException");
    }

    private static void promise17Refusals() {
        for (int wrong : WRONG_NUMBERS) {
            Check.noElement("17 telegram " + wrong, Make::used, y -> y.recarve(wrong));
        }
        Check.denied("17 rotten", () -> rottenWith("aaa"), 3, 0, y -> y.recarve(0));
        Check.denied("17 rotten before invalid", () -> rottenWith("a1a"), 3, 0, y -> y.recarve(0));
        Check.denied("17 invalid", () -> damagedTo("ab1"), 5, 2, y -> y.recarve(0));
        Check.denied("17 too short", () -> damagedTo("ab\\"), 5, 3, y -> y.recarve(0));
        Check.denied("17 checksums", () -> damagedTo("abd"), 6, Make.sum("abd"), y -> y.recarve(0));
        Check.denied("17 no room", TelegramTest::growingInFull, 1, 8, y -> y.recarve(0));
        TurnipPages x = growingInFull();
        x.drop(2);
        Check.equal("17 room again", x.recarve(0), 2);
        Check.equal("17 eight pages", x.pagesIn(0), 8);
        Check.denied("17 checksums before room", TelegramTest::damagedInFull, 6, Make.sum("0".repeat(11) + "2".repeat(11)),
                y -> y.recarve(0));
    }

    private static TurnipPages damagedTo(String code) {
        TurnipPages x = Make.roots(5);
        Make.carve(x, 0, 1, "abc");
        Make.damage(x, 0, code);
        return x;
    }

    private static TurnipPages rottenWith(String code) {
        TurnipPages x = damagedTo(code);
        x.age(4);
        return x;
    }

    /** Telegram 0 has one page, would have two, and its root has eight. */
    private static TurnipPages growingInFull() {
        TurnipPages x = Make.roots(2);
        Make.carveForged(x, 0, "8\\13\\18\\23\\2", "1".repeat(11) + "2".repeat(11));
        Make.carve(x, 0, 0, "0123456789".repeat(3) + "abcdef");
        Make.carve(x, 0, 0, "z");
        return x;
    }

    private static TurnipPages damagedInFull() {
        TurnipPages x = growingInFull();
        Make.damage(x, 0, "8\\03\\08\\23\\2");
        return x;
    }

    private static void promise18() {
        TurnipPages x = nearlyFull();
        x.age(3);
        Check.equal("18 root before", x.move(0, 1), 0);
        Check.equal("18 root", x.rootOf(0), 1);
        Check.equal("18 the rot stays", x.rotOf(0, 0), 3);
        Check.equal("18 pages from", x.pagesIn(0), 6);
        Check.equal("18 pages to", x.pagesIn(1), 3);
        x.age(1);
        Check.equal("18 rots with its root", x.rotOf(0, 0), 5);
        Check.equal("18 back", x.move(0, 0), 1);
        Check.equal("18 changes", x.undoCount(), 8);
        Check.equal("18 up to eight pages", nearlyFull().move(1, 1), 0);
        TurnipPages rotten = Make.roots(5, 0);
        Make.carve(rotten, 0, 0, "a");
        rotten.age(4);
        Check.equal("18 rotten", rotten.move(0, 1), 0);
        Check.equal("18 still rotten", rotten.rottenPages(), 1);
    }

    private static void promise18Refusals() {
        for (int wrong : WRONG_NUMBERS) {
            Check.noElement("18 telegram " + wrong, Make::used, y -> y.move(wrong, 1));
            Check.noElement("18 telegram and root " + wrong, Make::used, y -> y.move(wrong, -1));
        }
        for (int wrong : new int[] {-1, 3, 4, Integer.MIN_VALUE, Integer.MAX_VALUE}) {
            Check.noIndex("18 root " + wrong, Make::used, y -> y.move(0, wrong));
        }
        Check.denied("18 the same", Make::used, 4, 0, y -> y.move(0, 0));
        Check.denied("18 the same, full", TelegramTest::full, 4, 0, y -> y.move(1, 0));
        Check.denied("18 the same, root 1", TelegramTest::full, 4, 1, y -> y.move(2, 1));
        Check.denied("18 nine pages", TelegramTest::nearlyFull, 1, 8, y -> y.move(2, 0));
    }

    private static void promise19() {
        TurnipPages x = full();
        Check.equal("19 three are left", x.drop(1), 3);
        Check.equal("19 pages", x.pagesIn(0), 2);
        Check.equal("19 gone", Check.answer(x, y -> y.rootOf(1)), "throws NoSuchElementException");
        Check.equal("19 the order", x.telegramAt(0) + " " + x.telegramAt(1) + " " + x.telegramAt(2), "0 2 3");
        Check.equal("19 code behind", Look.code(x, 2), "thirteensigns");
        Check.equal("19 code of the last", Look.code(x, 3), "z");
        Check.equal("19 not twice", Check.answer(x, y -> y.drop(1)), "throws NoSuchElementException");
        Check.equal("19 first", x.drop(0), 2);
        Check.equal("19 last", x.drop(3), 1);
        Check.equal("19 all", x.drop(2), 0);
        Check.equal("19 changes", x.undoCount(), 8);
        Check.equal("19 the characters stay", x.carvedCharacters(), 5 + 36 + 13 + 1);
        Check.equal("19 new number", Make.carve(x, 0, 0, "n"), 4);
        for (int wrong : WRONG_NUMBERS) {
            Check.noElement("19 telegram " + wrong, Make::used, y -> y.drop(wrong));
        }
        TurnipPages many = thirtyTwo();
        Check.equal("19 of 32", many.drop(7), 31);
        Check.equal("19 the last of 32", many.telegramAt(30) + " " + Look.code(many, 31), "31 last");
        Check.equal("19 room for one", Make.carve(many, 3, 0, "new"), 32);
        Check.equal("19 32 again", many.telegramCount() + " " + many.telegramAt(31) + " " + Look.code(many, 32), "32 32 new");
        Check.equal("19 the one before", Look.code(many, 31), "last");
    }

    private static TurnipPages thirtyTwo() {
        TurnipPages x = Make.roots(0, 0, 0, 0);
        for (int i = 0; i < 32; i++) {
            Make.carve(x, i % 4, 0, i < 31 ? "n" : "last");
        }
        return x;
    }

    private static void promise20() {
        TurnipPages x = Make.roots(4);
        Make.carve(x, 0, 0, "aaaa1\\\\\\b");
        Check.equal("20 length", x.read(0), 9);
        Check.equal("20 line", Look.line(x), "aaaa1\\\\\\b");
        Make.carve(x, 0, 0, "b");
        Check.equal("20 replaces", x.read(1), 1);
        Check.equal("20 replaced", Look.line(x), "b");
        x.age(4);
        Check.equal("20 nearly rotten", x.read(0), 9);
        Check.equal("20 is no change", x.undoCount(), 4);
        TurnipPages dense = Make.roots(0);
        String code = "9a9b9c9d9e9f".repeat(3);
        String text = ("a".repeat(9) + "b".repeat(9) + "c".repeat(9) + "d".repeat(9) + "e".repeat(9) + "f".repeat(9)).repeat(3);
        int number = Make.carveForged(dense, 0, code, text);
        Check.equal("20 long", dense.read(number), 162);
        Check.equal("20 long line", Look.line(dense), text);
        Check.equal("20 long last", dense.lineCharacter(161), 'f');
        promise20Longest();
    }

    /** Carving anew makes a code longer, up to eight pages; no code is denser than 9a9b. */
    private static void promise20Longest() {
        TurnipPages x = Make.roots(0);
        int sum = Make.sum("0123456789".repeat(4));
        Make.carve(x, 0, 0, "0123456789".repeat(4));
        Make.damage(x, 0, withSum("8\\13\\18\\23\\2".repeat(6) + "abcdef??", sum));
        Check.equal("17 from 7 pages to 8", x.recarve(0), 8);
        Check.equal("17 a longer code", x.codeLength(0), 92);
        Make.damage(x, 0, withSum("8\\13\\18\\23\\2".repeat(2) + "abcdefgh".repeat(8) + "??cd", sum));
        Check.equal("17 8 pages again", x.recarve(0), 8);
        Check.equal("17 the longest code", x.codeLength(0), 96);
        Make.damage(x, 0, withSum("9a9b".repeat(23) + "9?9?", sum));
        Check.equal("29 the longest text", x.decodedLength(0), 432);
        Check.equal("30 the longest text", x.decodedLengthByUnits(0), 432);
        Check.equal("20 the longest text", x.read(0), 432);
        Check.equal("20 its last character", x.lineCharacter(431), x.codeCharacter(0, 95));
        Check.equal("20 nothing behind", Check.answer(x, y -> y.lineCharacter(432)), "throws IndexOutOfBoundsException");
    }

    /** The code with other characters for the first ? and the rest of them, so that its text has the checksum. */
    private static String withSum(String code, int sum) {
        for (char first = 'A'; first <= 'Z'; first++) {
            for (char other = 'a'; other <= 'z'; other++) {
                String tried = code.replaceFirst("\\?", "" + first).replace('?', other);
                if (Make.sum(decoded(tried)) == sum) {
                    return tried;
                }
            }
        }
        throw new IllegalStateException("no such code");
    }

    private static String decoded(String code) {
        StringBuilder text = new StringBuilder();
        Matcher units = Pattern.compile("([3-9]?)(\\\\?(.))").matcher(code);
        while (units.find()) {
            text.append(units.group(3).repeat(units.group(1).isEmpty() ? 1 : Integer.parseInt(units.group(1))));
        }
        return text.toString();
    }

    private static void promise20Refusals() {
        for (int wrong : WRONG_NUMBERS) {
            Check.noElement("20 telegram " + wrong, Make::used, y -> y.read(wrong));
        }
        Check.denied("20 rotten", () -> rottenWith("abc"), 3, 0, y -> y.read(0));
        Check.denied("20 rotten before invalid", () -> rottenWith("a1a"), 3, 0, y -> y.read(0));
        Check.denied("20 rotten before checksums", () -> rottenWith("abd"), 3, 0, y -> y.read(0));
        Check.denied("20 invalid", () -> damagedTo("2bc"), 5, 0, y -> y.read(0));
        Check.denied("20 ends early", () -> damagedTo("ab7"), 5, 3, y -> y.read(0));
        Check.denied("20 checksums", () -> damagedTo("4bc"), 6, Make.sum("bbbbc"), y -> y.read(0));
        TurnipPages x = damagedTo("bbb");
        Make.damage(x, 0, "abc");
        Check.equal("20 mended", x.read(0), 3);
        Check.equal("20 the same checksum will do", readForged(), "ca");
    }

    private static String readForged() {
        TurnipPages x = Make.roots(0);
        Make.carve(x, 0, 0, "ab");
        Make.damage(x, 0, "ca");
        x.read(0);
        return Look.line(x);
    }

    private static void promise21And22() {
        TurnipPages x = Make.roots(0, 0);
        Check.equal("21 none", x.telegramCount(), 0);
        Check.noIndex("22 none", Make::fresh, y -> y.telegramAt(0));
        for (int i = 0; i < 4; i++) {
            Make.carve(x, 1 - i % 2, i, "t");
            Check.equal("21 telegrams", x.telegramCount(), i + 1);
            Check.equal("22 last", x.telegramAt(i), i);
        }
        x.drop(1);
        Check.equal("21 dropped", x.telegramCount(), 3);
        Check.equal("22 order", x.telegramAt(0) + " " + x.telegramAt(1) + " " + x.telegramAt(2), "0 2 3");
        Check.equal("22 behind", Check.answer(x, y -> y.telegramAt(3)), "throws IndexOutOfBoundsException");
        for (int wrong : new int[] {-1, 1, 32, Integer.MIN_VALUE, Integer.MAX_VALUE}) {
            Check.noIndex("22 position " + wrong, Make::used, y -> y.telegramAt(wrong));
        }
    }

    private static void promise23() {
        TurnipPages x = Make.roots(0, 0);
        Make.carve(x, 0, 5, "thirteensigns");
        Make.carve(x, 0, 5, "short");
        Make.carve(x, 1, 9, "thirteensigns");
        Make.carve(x, 1, 5, "twelve signs");
        Make.carve(x, 1, 0, "s");
        Make.carve(x, 0, 9, "thirteensigns");
        int[] due = {2, 5, 1, 3, 0, 4};
        for (int rank = 0; rank < due.length; rank++) {
            Check.equal("23 rank " + rank, x.telegramByPriority(rank), due[rank]);
        }
        Check.equal("23 behind", Check.answer(x, y -> y.telegramByPriority(6)), "throws NoSuchElementException");
        for (int wrong : new int[] {-1, 1, Integer.MIN_VALUE, Integer.MAX_VALUE}) {
            Check.noElement("23 rank " + wrong, Make::used, y -> y.telegramByPriority(wrong));
        }
        Check.noElement("23 none", Make::fresh, y -> y.telegramByPriority(0));
    }

    private static void promise24() {
        TurnipPages x = Make.roots(1, 3);
        Make.carve(x, 0, 0, "a");
        Make.carve(x, 1, 0, "b");
        x.age(2);
        Make.carve(x, 1, 9, "c");
        Make.carve(x, 0, 9, "thirteensigns");
        Make.carve(x, 1, 0, "d");
        x.age(1);
        int[] due = {1, 0, 2, 4, 3};
        for (int rank = 0; rank < due.length; rank++) {
            Check.equal("24 rank " + rank, x.telegramByRot(rank), due[rank]);
        }
        Check.equal("24 behind", Check.answer(x, y -> y.telegramByRot(5)), "throws NoSuchElementException");
        x.age(20);
        Check.equal("24 all rotten", x.telegramByRot(0) + " " + x.telegramByRot(4), "0 4");
        for (int wrong : new int[] {-1, 1, Integer.MIN_VALUE, Integer.MAX_VALUE}) {
            Check.noElement("24 rank " + wrong, Make::used, y -> y.telegramByRot(wrong));
        }
        Check.noElement("24 none", Make::fresh, y -> y.telegramByRot(0));
    }

    private static void promise25To28() {
        TurnipPages x = Make.roots(5, 0);
        Make.carve(x, 1, 0, "xxxxx");
        Make.carve(x, 0, 0, "00");
        Check.equal("25 roots", x.rootOf(0) + " " + x.rootOf(1), "1 0");
        Check.equal("26 checksums", x.checksumOf(0) + " " + x.checksumOf(1), 120 * 15 % 97 + " " + 48 * 3 % 97);
        Check.equal("27 lengths", x.codeLength(0) + " " + x.codeLength(1), "2 4");
        Check.equal("28 codes", Look.code(x, 0) + " " + Look.code(x, 1), "5x \\0\\0");
        x.age(20);
        Check.equal("28 rotten", x.codeCharacter(1, 3), '0');
        for (int wrong : WRONG_NUMBERS) {
            Check.noElement("25 telegram " + wrong, Make::used, y -> y.rootOf(wrong));
            Check.noElement("26 telegram " + wrong, Make::used, y -> y.checksumOf(wrong));
            Check.noElement("27 telegram " + wrong, Make::used, y -> y.codeLength(wrong));
            Check.noElement("28 telegram " + wrong, Make::used, y -> y.codeCharacter(wrong, 0));
            Check.noElement("28 telegram and index " + wrong, Make::used, y -> y.codeCharacter(wrong, -1));
        }
        for (int wrong : new int[] {-1, 7, 96, Integer.MIN_VALUE, Integer.MAX_VALUE}) {
            Check.noIndex("28 index " + wrong, Make::used, y -> y.codeCharacter(0, wrong));
        }
    }

    private static void promise29And30() {
        decodedLengths("abc", 3);
        decodedLengths("9bc", 10);
        decodedLengths("a9b", 10);
        decodedLengths("\\9a", 2);
        decodedLengths("3\\\\", 3);
        decodedLengths("9\\4", 9);
        decodedLengths("\\3\\", -1);
        decodedLengths("ab3", -1);
        decodedLengths("1ab", -1);
        decodedLengths("33a", -1);
        TurnipPages escapes = Make.roots(0);
        Make.carve(escapes, 0, 0, "12\\3aaa4\\\\\\\\b");
        Check.equal("29 escapes", escapes.decodedLength(0), 13);
        Check.equal("30 escapes", escapes.decodedLengthByUnits(0), 13);
        TurnipPages x = rottenWith("4ab");
        Check.equal("29 rotten", x.decodedLength(0), 5);
        Check.equal("30 rotten", x.decodedLengthByUnits(0), 5);
        Check.equal("29 keeps the line", Look.line(x), "");
        TurnipPages dense = Make.roots(0);
        int number = Make.carveForged(dense, 0, "9a".repeat(20), "a".repeat(180));
        Check.equal("29 dense", dense.decodedLength(number), 180);
        Check.equal("30 dense", dense.decodedLengthByUnits(number), 180);
        for (int wrong : WRONG_NUMBERS) {
            Check.noElement("29 telegram " + wrong, Make::used, y -> y.decodedLength(wrong));
            Check.noElement("30 telegram " + wrong, Make::used, y -> y.decodedLengthByUnits(wrong));
        }
    }

    private static void decodedLengths(String code, int due) {
        if (due < 0) {
            Check.noElement("29 " + code, () -> damagedTo(code), y -> y.decodedLength(0));
            Check.noElement("30 " + code, () -> damagedTo(code), y -> y.decodedLengthByUnits(0));
            return;
        }
        Check.equal("29 " + code, damagedTo(code).decodedLength(0), due);
        Check.equal("30 " + code, damagedTo(code).decodedLengthByUnits(0), due);
    }

    private static void promise31() {
        Check.equal("31 readable", Make.used().isReadable(0), true);
        Check.equal("31 invalid", damagedTo("ab1").isReadable(0), false);
        Check.equal("31 checksums", damagedTo("abd").isReadable(0), false);
        Check.equal("31 the same checksum", damagedTo("a" + (char) ('b' + 3) + 'a').isReadable(0), true);
        Check.equal("31 rotten", rottenWith("bbc").isReadable(0), false);
        TurnipPages x = Make.roots(1);
        Make.carve(x, 0, 0, "a");
        x.age(19);
        Check.equal("31 nearly rotten", x.isReadable(0), true);
        x.age(1);
        Check.equal("31 at last", x.isReadable(0), false);
        Check.equal("31 is no denial", Look.latestDenial(x),
                "throws NoSuchElementException throws NoSuchElementException throws NoSuchElementException");
        Check.equal("31 keeps the line", Look.line(x), "");
        for (int wrong : WRONG_NUMBERS) {
            Check.noElement("31 telegram " + wrong, Make::used, y -> y.isReadable(wrong));
        }
    }
}
