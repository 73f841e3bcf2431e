import java.util.regex.Matcher;
import java.util.regex.Pattern;

/** "What it is" and the paragraphs of "Terms" from "Roots" to "Reading", sentence by sentence. */
final class TermSentences {
    private static final Pattern CODE = Pattern.compile("([3-9]?([^0-9\\\\]|\\\\[0-9\\\\]))*");

    private TermSentences() {
    }

    static void check() {
        store();
        calls();
        roots();
        runs();
        escapes();
        units();
        faults();
        checksums();
        numbers();
        pages();
        rot();
        reading();
    }

    private static void store() {
        Doc.section("What it is");
        Doc.says("A store of telegrams that are carved into roots: texts are encoded with run lengths and escapes, divided into"
                + " pages, protected by checksums, and pages rot with the dampness of their root.");
        TurnipPages x = Make.roots(2, 3);
        Make.carve(x, 0, 5, "aaaab7 ended.xyz");
        Make.carve(x, 1, 6, "\\\\\\");
        x.age(2);
        x.writeTelegram(0);
        Check.equal("the first root", Look.line(x), "#0@0!5 [4ab\\7 ended.]4 [xyz]4");
        x.writeTelegram(1);
        Check.equal("the second root", Look.line(x), "#1@1!6 [3\\\\]6");
        x.damage(0, 12, 'a');
        Check.equal("the checksum protects", x.isReadable(0) + " " + x.isReadable(1), "false true");
        storesAreApart();
    }

    /** What is done to one object shows in no other. */
    private static void storesAreApart() {
        TurnipPages used = Needs.telegrams();
        TurnipPages other = Make.days(1);
        used.read(0);
        Check.answer(used, y -> y.dry(1));
        Check.equal("days", other.day() + " " + other.undo() + " " + other.day(), "1 0 0");
        Check.equal("nothing else", Look.at(other) + Look.latestDenial(other), Look.at(Make.fresh()) + Look.latestDenial(Make.fresh()));
        Check.equal("telegrams", used.telegramCount() + " " + Look.line(used), "2 aaaa77b");
    }

    private static void calls() {
        Doc.section("What it is");
        Doc.says("An object is used for at most 512 calls after it has been made; what later calls answer is free.");
        TurnipPages days = new TurnipPages();
        for (int call = 1; call < 512; call++) {
            Check.equal("call " + call, days.age(1), 0);
        }
        Check.equal("the 512th call", days.day(), 511);
        TurnipPages numbers = Make.roots(1);
        for (int i = 0; i < 170; i++) {
            Check.equal("a number", numbers.type('t') + " " + numbers.carve(0, 0) + " " + numbers.drop(i), "1 " + i + " 0");
        }
        Check.equal("the 512th call", numbers.carvedCharacters(), 170);
    }

    private static void roots() {
        Doc.section("Roots");
        Doc.says("At most 4 roots exist, indexed from 0 in the order in which they were added.");
        TurnipPages x = Make.roots(5, 0, 3);
        Check.equal("three", x.rootCount(), 3);
        Check.equal("the fourth", x.addRoot(1), 3);
        Check.equal("four", x.rootCount(), 4);
        Check.equal("the fifth", Check.answer(x, y -> y.addRoot(2)), Check.DENIED);
        Check.equal("still four", x.rootCount(), 4);
        Check.equal("their order", x.dampness(0) + " " + x.dampness(1) + " " + x.dampness(2) + " " + x.dampness(3), "5 0 3 1");
        Check.equal("below the first", Check.answer(x, y -> y.dampness(-1)), Check.NO_INDEX);
        Check.equal("above the last", Check.answer(x, y -> y.dampness(4)), Check.NO_INDEX);
        Doc.says("A root has a dampness from 0 to 5 and room for 8 pages.");
        Check.answers("-1", Make::fresh, Check.BAD_ARGUMENT, y -> y.addRoot(-1));
        Check.answers("0", Make::fresh, 0, y -> y.addRoot(0));
        Check.answers("5", Make::fresh, 0, y -> y.addRoot(5));
        Check.answers("6", Make::fresh, Check.BAD_ARGUMENT, y -> y.addRoot(6));
        Check.answers("the eighth page", () -> Make.message(Make.filled(7), "a"), 7, y -> y.carve(0, 0));
        Check.answers("the ninth page", () -> Make.message(Make.filled(8), "a"), Check.DENIED, y -> y.carve(0, 0));
        Check.answers("the other root has room", () -> Make.message(Make.filled(8), "a"), 8, y -> y.carve(1, 0));
    }

    private static String encoded(String text) {
        TurnipPages x = Make.message(Make.fresh(), text);
        x.encode();
        return Look.line(x);
    }

    private static void runs() {
        Doc.section("Codes");
        Doc.says("A text is encoded as follows.");
        Check.equal("a text", encoded("aaaab7 ended."), "4ab\\7 ended.");
        Doc.says("It is divided into runs of equal characters, from left to right, each as long as possible but of at most"
                + " 9 characters.");
        Check.equal("8", encoded("a".repeat(8)), "8a");
        Check.equal("9", encoded("a".repeat(9)), "9a");
        Check.equal("10", encoded("a".repeat(10)), "9aa");
        Check.equal("11", encoded("a".repeat(11)), "9aaa");
        Check.equal("12", encoded("a".repeat(12)), "9a3a");
        Check.equal("17", encoded("a".repeat(17)), "9a8a");
        Check.equal("18", encoded("a".repeat(18)), "9a9a");
        Check.equal("19", encoded("a".repeat(19)), "9a9aa");
        for (int length = 0; length <= 40; length++) {
            String rest = length % 9 > 2 ? length % 9 + "x" : "x".repeat(length % 9);
            Check.equal(length + " equal ones", encoded("x".repeat(length)), "9x".repeat(length / 9) + rest);
        }
        Check.equal("runs side by side", encoded("aaaBBBBa".concat("b".repeat(10))), "3a4Ba9bb");
        Check.equal("equal ones apart", encoded("aabaa aab"), "aabaa aab");
        Doc.says("A run of one or two characters is written character by character; a longer run is written as the digit of its"
                + " length, followed by the character once.");
        Check.equal("1", encoded("a"), "a");
        Check.equal("2", encoded("aa"), "aa");
        Check.equal("3", encoded("aaa"), "3a");
        Check.equal("2 and 1", encoded("aab"), "aab");
        Check.equal("1 and 2", encoded("abb"), "abb");
        Check.equal("3, 2, 1", encoded("aaabbc"), "3abbc");
    }

    private static void escapes() {
        Doc.says("Wherever a character that is a digit or a backslash is written, a backslash is written immediately before it.");
        for (char sign = 32; sign < 127; sign++) {
            String written = "0123456789\\".indexOf(sign) < 0 ? "" + sign : "\\" + sign;
            Check.equal("1", encoded("" + sign), written);
            Check.equal("2", encoded(("" + sign).repeat(2)), written + written);
            Check.equal("3", encoded(("" + sign).repeat(3)), "3" + written);
            Check.equal("9", encoded(("" + sign).repeat(9)), "9" + written);
            Check.equal("10", encoded(("" + sign).repeat(10)), "9" + written + written);
        }
        Check.equal("a digit of a length has none", encoded("3aaa"), "\\33a");
        Check.equal("the longest code", encoded("0123456789".repeat(4)).length(), 80);
    }

    /** The decoded text, or the fault position. */
    private static Object decoded(String code) {
        TurnipPages x = Make.message(Make.fresh(), code);
        Object length = Check.answer(x, TurnipPages::decode);
        return length.equals(Check.BAD_ARGUMENT) ? (Object) x.faultPosition() : Look.line(x);
    }

    private static void units() {
        Doc.says("A code is valid if it can be divided into units from left to right: a unit consists of a digit from 3 to 9, which"
                + " can be missing, and of either one character that is neither a digit nor a backslash, or of a backslash and a"
                + " digit or a second backslash.");
        Check.equal("2", decoded("2a"), 0);
        Check.equal("3", decoded("3a"), "aaa");
        Check.equal("9", decoded("9a"), "aaaaaaaaa");
        Check.equal("missing", decoded("a"), "a");
        Check.equal("below a digit", decoded("3/"), "///");
        Check.equal("above a digit", decoded("3:"), ":::");
        Check.equal("below a backslash", decoded("["), "[");
        Check.equal("above a backslash", decoded("]"), "]");
        Check.equal("first and last character", decoded(" ~"), " ~");
        Check.equal("backslash and 0", decoded("\\0"), "0");
        Check.equal("backslash and 9", decoded("\\9"), "9");
        Check.equal("two backslashes", decoded("\\\\"), "\\");
        Check.equal("backslash and letter", decoded("\\a"), 1);
        Check.equal("two digits", decoded("33a"), 1);
        Check.equal("a length and an escape", decoded("3\\1"), "111");
        Doc.says("A valid code is decoded unit by unit: the character of the unit, as many times as the digit says, or once without"
                + " a digit.");
        Check.equal("once", decoded("a\\1\\\\"), "a1\\");
        Check.equal("each digit", decoded("3a4b5c6\\77\\\\"), "aaabbbbccccc777777\\\\\\\\\\\\\\");
        Check.equal("units of equal characters", decoded("3aa3a"), "aaaaaaa");
        Check.equal("the longest text", ((String) decoded("9~".repeat(20))).length(), 180);
        Doc.says("The empty code is valid.");
        Check.equal("empty", decoded(""), "");
    }

    private static void faults() {
        Doc.says("The fault position of an invalid code is the index of the first character that cannot continue any valid code,"
                + " or the length of the code if it ends too early.");
        Check.equal("the first character", decoded("0"), 0);
        Check.equal("the last character", decoded("a".repeat(39) + "2"), 39);
        Check.equal("the first of two", decoded("ab1\\x"), 2);
        Check.equal("ends behind a digit", decoded("9"), 1);
        Check.equal("ends behind a backslash", decoded("\\"), 1);
        Check.equal("ends behind both", decoded("9\\"), 2);
        Check.equal("40 characters end too early", decoded("a".repeat(39) + "3"), 40);
        Check.equal("40 characters end behind a backslash", decoded("a".repeat(38) + "4\\"), 40);
        eachShortCode("");
    }

    /** All codes of up to four of these characters, against the pattern of the units. */
    private static void eachShortCode(String code) {
        Object due = faultOf(code);
        Object got = decoded(code);
        Check.equal("\"" + code + "\"", got instanceof String ? -1 : got, due);
        for (char sign : "a2391\\".toCharArray()) {
            if (code.length() < 4) {
                eachShortCode(code + sign);
            }
        }
    }

    private static int faultOf(String code) {
        for (int end = 1; end <= code.length(); end++) {
            Matcher start = CODE.matcher(code.substring(0, end));
            if (!start.matches() && !start.hitEnd()) {
                return end - 1;
            }
        }
        return CODE.matcher(code).matches() ? -1 : code.length();
    }

    private static int sum(String text) {
        return Make.message(Make.fresh(), text).messageChecksum();
    }

    private static void checksums() {
        Doc.section("Checksums");
        Doc.says("The checksum of a text is the sum over all its characters of the character code times the position, counted from"
                + " 1, modulo 97.");
        Check.equal("none", sum(""), 0);
        Check.equal("the lowest character", sum(" "), 32);
        Check.equal("95", sum("_"), 95);
        Check.equal("96", sum("`"), 96);
        Check.equal("97", sum("a"), 0);
        Check.equal("98", sum("b"), 1);
        Check.equal("the highest character", sum("~"), 29);
        Check.equal("the second position", sum("a!"), 66);
        Check.equal("the order", sum("!a"), 33);
        Check.equal("194", sum("0I"), 0);
        Check.equal("40 characters", sum("~".repeat(40)), 126 * 820 % 97);
        Check.equal("only the last position", sum("a".repeat(39) + "b"), 40);
    }

    private static void numbers() {
        Doc.section("Telegrams");
        Doc.says("The first telegram has the number 0, and every further one the next number; numbers are not used again.");
        TurnipPages x = Make.roots(1, 1);
        Check.equal("the first", Make.carve(x, 1, 9, "a"), 0);
        Check.equal("the second", Make.carve(x, 0, 0, "a"), 1);
        x.drop(1);
        Check.equal("behind a dropped one", Make.carve(x, 0, 0, "a"), 2);
        x.drop(0);
        x.drop(2);
        Check.equal("behind all dropped ones", Make.carve(x, 0, 0, "a"), 3);
        Check.answer(x, y -> y.carve(0, 0));
        Check.equal("a denied one has none", Make.carve(x, 0, 0, "a"), 4);
        Doc.says("A telegram is in a root and has a priority from 0 to 9.");
        Check.answers("-1", Make::ready, Check.BAD_ARGUMENT, y -> y.carve(0, -1));
        Check.answers("0", Make::ready, 0, y -> y.carve(0, 0));
        Check.answers("9", Make::ready, 0, y -> y.carve(0, 9));
        Check.answers("10", Make::ready, Check.BAD_ARGUMENT, y -> y.carve(0, 10));
        x = Make.ready();
        x.carve(1, 9);
        x.writeTelegram(0);
        Check.equal("root and priority", Look.line(x), "#0@1!9 [abc]0");
    }

    /** The lengths of the code's pages of a text. */
    private static String pagesOf(String text) {
        TurnipPages x = Make.roots(0);
        Make.carve(x, 0, 0, text);
        StringBuilder out = new StringBuilder().append(x.pageCount(0)).append(':');
        x.writeTelegram(0);
        for (String part : Look.line(x).replaceFirst("^#0@0!0 ", "").split(" ")) {
            out.append(' ').append(part.length() - "[]0".length());
        }
        return out.toString();
    }

    private static void pages() {
        Doc.says("When it is carved, its text is encoded, the code is divided into pages of 12 characters, of which the last one"
                + " can have fewer, and the checksum of the text is kept.");
        String text = "abcdefghijklmnopqrstuvwxyzABCDEFGHIJKLMN";
        int[] lengths = {1, 11, 12, 13, 24, 25, 36, 37, 40};
        String[] due = {"1: 1", "1: 11", "1: 12", "2: 12 1", "2: 12 12", "3: 12 12 1", "3: 12 12 12", "4: 12 12 12 1",
            "4: 12 12 12 4"};
        for (int i = 0; i < lengths.length; i++) {
            Check.equal(lengths[i] + " characters", pagesOf(text.substring(0, lengths[i])), due[i]);
        }
        Check.equal("the code counts, not the text", pagesOf("z".repeat(40)), "1: 10");
        Check.equal("an escape is divided, too", pagesOf("abcdefghijk1"), "2: 12 1");
        Check.equal("the most pages", pagesOf("0123456789".repeat(4)), "7: 12 12 12 12 12 12 8");
        TurnipPages x = Make.roots(0);
        Make.carve(x, 0, 0, "aaaa");
        Check.equal("the sum of the text, not of the code", x.checksumOf(0), 97 * 10 % 97);
        Make.carve(x, 0, 0, "bbbb");
        Check.equal("another sum of a text", x.checksumOf(1), 98 * 10 % 97);
    }

    private static void rot() {
        Doc.section("Rot");
        Doc.says("A page has a rot from 0 to 20, initially 0, and is rotten if its rot is 20.");
        TurnipPages x = Make.roots(1);
        Make.carve(x, 0, 0, "thirteensigns");
        Check.equal("initially", x.rotOf(0, 0) + " " + x.rotOf(0, 1) + " " + x.rottenPages(), "0 0 0");
        x.age(19);
        Check.equal("19", x.rotOf(0, 0) + " " + x.rotOf(0, 1) + " " + x.rottenPages() + " " + x.isReadable(0), "19 19 0 true");
        x.age(1);
        Check.equal("20", x.rotOf(0, 0) + " " + x.rotOf(0, 1) + " " + x.rottenPages() + " " + x.isReadable(0), "20 20 2 false");
        x.age(1);
        Check.equal("never 21", x.rotOf(0, 0) + " " + x.rotOf(0, 1) + " " + x.rottenPages(), "20 20 2");
        Doc.says("When a day passes, the rot of each page increases by the dampness of its root, but not above 20.");
        for (int dampness = 0; dampness <= 5; dampness++) {
            TurnipPages single = Make.roots(dampness, 1);
            Make.carve(single, 0, 0, "thirteensigns");
            Make.carve(single, 1, 0, "other root");
            for (int day = 1; day <= 21; day++) {
                single.age(1);
                String due = Math.min(20, day * dampness) + " " + Math.min(20, day * dampness) + " " + Math.min(20, day);
                String what = "dampness " + dampness + ", day " + day;
                Check.equal(what, single.rotOf(0, 0) + " " + single.rotOf(0, 1) + " " + single.rotOf(1, 0), due);
            }
        }
        TurnipPages moved = Make.roots(4, 5, 0);
        Make.carve(moved, 0, 0, "a");
        moved.age(4);
        moved.move(0, 1);
        moved.age(1);
        Check.equal("16 and 5", moved.rotOf(0, 0), 20);
        moved.move(0, 2);
        moved.age(20);
        Check.equal("it stays", moved.rotOf(0, 0), 20);
    }

    private static void reading() {
        Doc.section("Reading");
        Doc.says("A telegram is readable if none of its pages is rotten, its code is valid, and the checksum of the decoded text"
                + " equals the checksum that is kept.");
        Check.answers("all three", () -> Make.damaged("abc", 3), true, x -> x.isReadable(0));
        Check.answers("another text of the same sum", () -> Make.damaged("aea", 3), true, x -> x.isReadable(0));
        Check.answers("another code of the same text", Make::longWay, true, x -> x.isReadable(0));
        Check.answers("rotten alone", () -> Make.damaged("abc", 4), false, x -> x.isReadable(0));
        Check.answers("invalid alone", () -> Make.damaged("ab2", 3), false, x -> x.isReadable(0));
        Check.answers("another sum alone", () -> Make.damaged("abd", 3), false, x -> x.isReadable(0));
        Check.answers("all wrong", () -> Make.damaged("ab2", 4), false, x -> x.isReadable(0));
    }
}
