/** Promises 15 to 31, sentence by sentence. */
final class TelegramSentences {
    private static final String NO_TELEGRAM = "Throws `NoSuchElementException` if there is no such telegram";
    private static final int[] WRONG_INDEXES = {-1, 7, 8, 96, Integer.MIN_VALUE, Integer.MAX_VALUE};
    private static final char[] WRONG_SIGNS = {0, 31, 127, 128, 255, 288, 65535};

    private TelegramSentences() {
    }

    static void check() {
        promise15();
        promise15Refusals();
        promise16();
        promise16Refusals();
        promise17();
        promise17Refusals();
        promise18();
        promise18Refusals();
        promise19();
        promise20();
        promise20Refusals();
        promise21And22();
        promise23();
        promise24();
        promise25And26();
        promise27And28();
        promise29("Promise 29: decodedLength", "Returns the length of the decoded text of a telegram, found by decoding it.",
                TurnipPages::decodedLength);
        promise29("Promise 30: decodedLengthByUnits", "Returns the same length as decodedLength, found by adding up the lengths of"
                + " the units without decoding.", TurnipPages::decodedLengthByUnits);
        promise31();
    }

    private static String written(TurnipPages x, int telegram) {
        x.writeTelegram(telegram);
        return Look.line(x);
    }

    private static void promise15() {
        Doc.section("Promise 15: carve");
        Doc.says("Carves the message into a root.");
        TurnipPages x = Make.message(Make.roots(5, 2, 1), "aaaab7 ended. So");
        x.carve(1, 3);
        Check.equal("all of it", written(x, 0) + " " + x.checksumOf(0), "#0@1!3 [4ab\\7 ended.]0 [ So]0 "
                + Make.sum("aaaab7 ended. So"));
        Check.equal("into this root", x.pagesIn(0) + " " + x.pagesIn(1) + " " + x.pagesIn(2), "0 2 0");
        Doc.says("The message is empty afterwards, unless an exception is thrown.");
        Check.equal("empty", x.clearMessage(), 0);
        x = Make.message(Make.filled(8), "abc");
        Check.answer(x, y -> y.carve(2, 0));
        Check.answer(x, y -> y.carve(0, 10));
        Check.answer(x, y -> y.carve(0, 0));
        Check.equal("it stays after three exceptions", x.encodedLength() + " " + x.messageChecksum(), "3 8");
        Check.equal("and can be carved", x.carve(1, 0) + " " + x.clearMessage(), "8 0");
        Doc.says("- `priority`: the priority, 0 to 9");
        for (int priority = 0; priority <= 9; priority++) {
            TurnipPages y = Make.ready();
            y.carve(0, priority);
            Check.equal("" + priority, written(y, 0), "#0@0!" + priority + " [abc]0");
        }
        Doc.says("Returns the number of the telegram.");
        Check.answers("the first", Make::ready, 0, y -> y.carve(0, 0));
        Check.answers("the eighth of a root", () -> Make.message(Make.filled(7), "a"), 7, y -> y.carve(0, 0));
        Check.answers("behind a dropped and an undone one", Needs::telegrams, 3, y -> y.carve(0, 0));
    }

    private static void promise15Refusals() {
        Needs.root(Needs::telegrams, (x, root) -> x.carve(root, 0));
        Check.noIndex("no roots", () -> Make.message(Make.fresh(), "a"), x -> x.carve(0, 0));
        Doc.says("Throws `IllegalArgumentException` if the priority is out of range");
        for (int wrong : new int[] {-1, 10, 11, Integer.MIN_VALUE, Integer.MAX_VALUE}) {
            Check.badArgument("" + wrong, Make::used, x -> x.carve(0, wrong));
        }
        Doc.says("Throws `UnsupportedOperationException` if denied: 2, 1 (the root would have more than 8 pages)");
        Check.denied("2", () -> Make.roots(0), 2, 0, x -> x.carve(0, 0));
        Check.denied("2 before 1", () -> Make.filled(8), 2, 8, x -> x.carve(0, 0));
        Check.denied("8 and 1", () -> Make.message(Make.filled(8), "a"), 1, 8, x -> x.carve(0, 0));
        Check.denied("7 and 2", () -> Make.message(Make.filled(7), "thirteensigns"), 1, 8, x -> x.carve(0, 0));
        Check.denied("2 and 7", () -> Make.message(Make.filled(2), "0123456789".repeat(4)), 1, 8, x -> x.carve(0, 0));
        Check.answers("7 and 1", () -> Make.message(Make.filled(7), "twelve signs"), 7, x -> x.carve(0, 0));
        Check.answers("6 and 2", () -> Make.message(Make.filled(6), "thirteensigns"), 6, x -> x.carve(0, 0));
        Check.answers("1 and 7", () -> Make.message(Make.filled(1), "0123456789".repeat(4)), 1, x -> x.carve(0, 0));
        Check.answers("room that was dropped", () -> Make.message(Make.dropped(Make.filled(8), 3), "a"), 8, x -> x.carve(0, 0));
        Check.answers("room that was undone", () -> Make.message(Make.undone(Make.filled(8), 1), "a"), 7, x -> x.carve(0, 0));
    }

    private static void promise16() {
        Doc.section("Promise 16: damage");
        Doc.says("Damages a telegram: replaces a character of its code.");
        TurnipPages x = Make.carved(Make.carved(Make.roots(3), 0, "abcdefghijklm"), 0, "other");
        x.age(2);
        x.damage(0, 0, ' ');
        x.damage(0, 11, '~');
        x.damage(0, 12, '\\');
        Check.equal("the first, the twelfth and the last", written(x, 0), "#0@0!5 [ bcdefghijk~]6 [\\]6");
        Check.equal("its checksum stays", x.checksumOf(0), Make.sum("abcdefghijklm"));
        Check.equal("the other stays", written(x, 1), "#1@0!5 [other]6");
        Doc.says("Returns the character before.");
        Check.answers("the first", Make::used, '4', y -> y.damage(0, 0, 'q'));
        Check.answers("the last", Make::used, 'b', y -> y.damage(0, 6, 'q'));
        Check.answers("a space", () -> Make.carved(Make.roots(0), 0, " ~"), ' ', y -> y.damage(0, 0, '~'));
        Check.answers("the last sign", () -> Make.carved(Make.roots(0), 0, " ~"), '~', y -> y.damage(0, 1, ' '));
        Check.answers("a damaged one", () -> Make.damaged("xbc", 4), 'x', y -> y.damage(0, 0, 'a'));
    }

    private static void promise16Refusals() {
        Needs.telegram(NO_TELEGRAM, (x, telegram) -> x.damage(telegram, 0, 'q'));
        Doc.says("Throws `IndexOutOfBoundsException` if its code has no such character");
        for (int wrong : WRONG_INDEXES) {
            Check.noIndex("" + wrong + " of 7", Make::used, x -> x.damage(0, wrong, 'q'));
        }
        Check.answers("6 of 7", Make::used, 'b', x -> x.damage(0, 6, 'q'));
        Check.noIndex("the length of the text, 7, is not that of the code, 2", Needs::longRun, x -> x.damage(0, 2, 'q'));
        Doc.says("Throws `IllegalArgumentException` if the code of the new character is not from 32 to 126");
        for (char wrong : WRONG_SIGNS) {
            Check.badArgument("" + (int) wrong, Make::used, x -> x.damage(0, 0, wrong));
        }
        Check.answers("32", Make::used, '4', x -> x.damage(0, 0, (char) 32));
        Check.answers("126", Make::used, '4', x -> x.damage(0, 0, (char) 126));
        Doc.says("Throws `UnsupportedOperationException` if denied: 4");
        Check.denied("the first", Make::used, 4, '4', x -> x.damage(0, 0, '4'));
        Check.denied("the last", Make::used, 4, 'b', x -> x.damage(0, 6, 'b'));
        Check.denied("a rotten one", () -> Make.damaged("xbc", 4), 4, 'x', x -> x.damage(0, 0, 'x'));
    }

    private static void promise17() {
        Doc.section("Promise 17: recarve");
        Doc.says("Carves a telegram anew in its root: its decoded text is encoded again, and the rot of its pages becomes 0.");
        TurnipPages x = Make.carved(Make.roots(1, 1), 1, "thirteensigns");
        x.age(19);
        x.recarve(0);
        Check.equal("the rot", written(x, 0), "#0@1!5 [thirteensign]0 [s]0");
        Check.equal("day and characters", x.day() + " " + x.carvedCharacters(), "19 13");
        x = Make.longWay();
        x.recarve(0);
        Check.equal("the code", Look.code(x, 0) + " " + x.decodedLength(0), "4a 4");
        x = Make.aged(Make.growing(3), 19);
        x.recarve(0);
        Check.equal("a longer code", written(x, 0), "#0@0!5 [9\\1\\1\\19\\2\\2]0 [\\2]0");
        Check.equal("the others keep their rot", x.rotOf(1, 0) + " " + x.rotOf(2, 0), "19 19");
        Doc.says("Returns the number of its pages.");
        Check.answers("1", () -> Make.damaged("abc", 3), 1, y -> y.recarve(0));
        Check.answers("1 to 2", () -> Make.growing(1), 2, y -> y.recarve(0));
        Check.answers("2 to 1", () -> Make.forged("aaaaaaaaaaaaa", "a".repeat(13)), 1, y -> y.recarve(0));
        Check.answers("7", () -> Make.carved(Make.roots(0), 0, "0123456789".repeat(4)), 7, y -> y.recarve(0));
    }

    private static void promise17Refusals() {
        Needs.telegram(NO_TELEGRAM, TurnipPages::recarve);
        Doc.says("Throws `UnsupportedOperationException` if denied: 3, 5, 6, 1 (the root would have more than 8 pages)");
        Check.denied("3", () -> Make.damaged("abc", 4), 3, 0, x -> x.recarve(0));
        Check.denied("3 before 5", () -> Make.damaged("ab2", 4), 3, 0, x -> x.recarve(0));
        Check.denied("3 before 6", () -> Make.damaged("abd", 4), 3, 0, x -> x.recarve(0));
        Check.denied("5", () -> Make.damaged("ab2", 3), 5, 2, x -> x.recarve(0));
        Check.denied("6", () -> Make.damaged("abd", 3), 6, 11, x -> x.recarve(0));
        Check.denied("1", () -> Make.growing(8), 1, 8, x -> x.recarve(0));
        Check.answers("8 pages", () -> Make.growing(7), 2, x -> x.recarve(0));
        Check.answers("its own pages do not count twice", () -> Make.carved(Make.filled(7), 0, "twelve signs"), 1,
                x -> x.recarve(7));
    }

    private static void promise18() {
        Doc.section("Promise 18: move");
        Doc.says("Moves all pages of a telegram to another root.");
        TurnipPages x = Make.carved(Make.carved(Make.roots(1, 2), 0, "thirteensigns"), 0, "stays");
        x.age(3);
        x.move(0, 1);
        Check.equal("all pages", x.pagesIn(0) + " " + x.pagesIn(1), "1 2");
        Check.equal("with their rot", written(x, 0), "#0@1!5 [thirteensign]3 [s]3");
        Check.equal("the other stays", written(x, 1), "#1@0!5 [stays]3");
        Doc.says("Returns the index of the root before.");
        TurnipPages four = Make.carved(Make.roots(0, 0, 0, 0), 0, "a");
        for (int root = 0; root < 3; root++) {
            int next = root + 1;
            Check.equal("" + root, four.move(0, next), root);
        }
        Check.equal("3", four.move(0, 0), 3);
        Check.answers("a rotten one", () -> Make.aged(Make.carved(Make.roots(5, 0), 0, "a"), 4), 0, y -> y.move(0, 1));
    }

    private static void promise18Refusals() {
        Needs.telegram(NO_TELEGRAM, (x, telegram) -> x.move(telegram, 1));
        Needs.root(Needs::telegrams, (x, root) -> x.move(0, root));
        Doc.says("Throws `UnsupportedOperationException` if denied: 4 (the root), 1 (the root would have more than 8 pages)");
        Check.denied("4", Make::used, 4, 0, x -> x.move(0, 0));
        Check.denied("4, root 1", Make::fullBeside, 4, 1, x -> x.move(8, 1));
        Check.denied("4 before 1", Make::fullBeside, 4, 0, x -> x.move(0, 0));
        Check.denied("8 and 1", Make::fullBeside, 1, 8, x -> x.move(8, 0));
        Check.denied("7 and 2", () -> Make.carved(Make.filled(7), 1, "thirteensigns"), 1, 8, x -> x.move(7, 0));
        Check.answers("7 and 1", () -> Make.carved(Make.filled(7), 1, "twelve signs"), 1, x -> x.move(7, 0));
        Check.answers("6 and 2", () -> Make.carved(Make.filled(6), 1, "thirteensigns"), 1, x -> x.move(6, 0));
    }

    private static void promise19() {
        Doc.section("Promise 19: drop");
        Doc.says("Drops a telegram with its pages.");
        TurnipPages x = Make.carved(Make.carved(Make.filled(2), 0, "thirteensigns"), 0, "last");
        x.drop(2);
        Check.equal("pages", x.pagesIn(0), 3);
        Check.equal("the others", x.telegramAt(0) + " " + x.telegramAt(1) + " " + x.telegramAt(2), "0 1 3");
        Check.equal("their codes", Look.code(x, 0) + " " + Look.code(x, 1) + " " + Look.code(x, 3), "f f last");
        Check.answers("a rotten one", () -> Make.damaged("abc", 4), 0, y -> y.drop(0));
        TurnipPages full = Make.carved(Make.dropped(Needs.telegrams32(), 7), 3, "new");
        Check.equal("of 32", full.telegramCount() + " " + full.telegramAt(30) + " " + full.telegramAt(31), "32 31 32");
        Check.equal("the last two", Look.code(full, 31) + " " + Look.code(full, 32), "t new");
        Doc.says("Returns the number of telegrams afterwards.");
        TurnipPages eight = Make.filled(8);
        for (int left = 7; left >= 0; left--) {
            Check.equal("" + left, eight.drop(7 - left), left);
        }
        Needs.telegram(NO_TELEGRAM, TurnipPages::drop);
        Check.noElement("twice", () -> Make.dropped(Make.filled(2), 1), y -> y.drop(1));
    }

    private static void promise20() {
        Doc.section("Promise 20: read");
        Doc.says("Reads a telegram: writes its decoded text as the output line, which replaces the previous one.");
        TurnipPages x = Make.carved(Make.carved(Make.roots(1), 0, "aaaa\\7 a long text"), 0, "b");
        x.read(0);
        Check.equal("the text", Look.line(x), "aaaa\\7 a long text");
        x.read(1);
        Check.equal("a shorter one", Look.line(x), "b");
        Check.equal("is no change", x.undoCount(), 3);
        Doc.says("Returns the length of the line.");
        Check.answers("1", () -> Make.carved(Make.roots(0), 0, "a"), 1, y -> y.read(0));
        Check.answers("40", () -> Make.carved(Make.roots(0), 0, "a".repeat(40)), 40, y -> y.read(0));
        Check.answers("more than a message", () -> Make.forged("9a".repeat(20), "a".repeat(180)), 180, y -> y.read(0));
        Check.answers("another text of the same sum", () -> Make.damaged("aea", 3), 3, y -> y.read(0));
    }

    private static void promise20Refusals() {
        Needs.telegram(NO_TELEGRAM, TurnipPages::read);
        Doc.says("Throws `UnsupportedOperationException` if denied: 3, 5, 6");
        Check.denied("3", () -> Make.damaged("abc", 4), 3, 0, x -> x.read(0));
        Check.denied("3 before 5", () -> Make.damaged("ab2", 4), 3, 0, x -> x.read(0));
        Check.denied("3 before 6", () -> Make.damaged("abd", 4), 3, 0, x -> x.read(0));
        Check.denied("5", () -> Make.damaged("ab\\", 3), 5, 3, x -> x.read(0));
        Check.denied("6", () -> Make.damaged("abd", 3), 6, 11, x -> x.read(0));
        Check.answers("none", () -> Make.damaged("abc", 3), 3, x -> x.read(0));
        TurnipPages x = Make.damaged("ab2", 0);
        x.encode();
        x.writeTelegram(0);
        Check.answer(x, y -> y.read(0));
        Check.equal("the line stays", Look.line(x), "#0@0!1 [ab2]0");
    }

    private static void promise21And22() {
        Doc.section("Promise 21: telegramCount");
        Doc.says("Returns the number of telegrams.");
        Check.answers("0", Make::fresh, 0, TurnipPages::telegramCount);
        for (int count = 0; count <= 8; count++) {
            int due = count;
            Check.answers("" + count, () -> Make.filled(due), due, TurnipPages::telegramCount);
        }
        Check.answers("two of four", Needs::telegrams, 2, TurnipPages::telegramCount);
        Check.answers("all dropped", () -> Make.dropped(Make.filled(1), 0), 0, TurnipPages::telegramCount);
        Check.answers("32", Needs::telegrams32, 32, TurnipPages::telegramCount);
        Doc.section("Promise 22: telegramAt");
        Doc.says("Returns a telegram by the position in the order of the numbers.");
        TurnipPages x = Make.dropped(Make.dropped(Make.filled(6), 0), 3);
        Check.equal("four of six", x.telegramAt(0) + " " + x.telegramAt(1) + " " + x.telegramAt(2) + " " + x.telegramAt(3),
                "1 2 4 5");
        Doc.says("- `position`: the position, from 0");
        Check.answers("0", Needs::telegrams, 0, y -> y.telegramAt(0));
        Doc.says("Returns the number of the telegram.");
        Check.answers("1", Needs::telegrams, 2, y -> y.telegramAt(1));
        Check.answers("31", Needs::telegrams32, 31, y -> y.telegramAt(31));
        Doc.says("Throws `IndexOutOfBoundsException` if there is no such position");
        for (int wrong : new int[] {-1, 2, 3, Integer.MIN_VALUE, Integer.MAX_VALUE}) {
            Check.noIndex("" + wrong, Needs::telegrams, y -> y.telegramAt(wrong));
        }
        Check.noIndex("none", () -> Make.roots(1), y -> y.telegramAt(0));
        Check.answers("32 of 32", Needs::telegrams32, Check.NO_INDEX, y -> y.telegramAt(32));
    }

    private static void promise23() {
        Doc.section("Promise 23: telegramByPriority");
        Doc.says("Returns the telegram at a rank: by priority in descending order, then by number of pages in ascending order, then"
                + " by number in ascending order.");
        TurnipPages x = Make.roots(0, 0);
        int[] priorities = {0, 9, 5, 9, 5, 5, 9};
        String[] texts = {"one", "thirteensigns", "two", "one", "thirteensigns", "one", "twenty-five signs it is.."};
        for (int i = 0; i < texts.length; i++) {
            Make.carve(x, i % 2, priorities[i], texts[i]);
        }
        ranks(x, TurnipPages::telegramByPriority, 3, 1, 6, 2, 5, 4, 0);
        Doc.says("- `rank`: the rank, from 0");
        Check.answers("0", Needs::telegrams, 0, y -> y.telegramByPriority(0));
        Doc.says("Returns the number of the telegram.");
        Check.answers("1", Needs::telegrams, 2, y -> y.telegramByPriority(1));
        Check.answers("31", Needs::telegrams32, 31, y -> y.telegramByPriority(31));
        Doc.says("Throws `NoSuchElementException` if there is no such rank");
        noRanks(TurnipPages::telegramByPriority);
    }

    private static void ranks(TurnipPages x, Needs.Numbered call, int... due) {
        for (int rank = 0; rank < due.length; rank++) {
            Check.equal("rank " + rank, call.on(x, rank), due[rank]);
        }
        Check.equal("behind", Check.answer(x, y -> call.on(y, due.length)), Check.NO_ELEMENT);
    }

    private static void noRanks(Needs.Numbered call) {
        for (int wrong : new int[] {-1, 2, 3, Integer.MIN_VALUE, Integer.MAX_VALUE}) {
            Check.noElement("" + wrong, Needs::telegrams, y -> call.on(y, wrong));
        }
        Check.noElement("none", () -> Make.roots(1), y -> call.on(y, 0));
        Check.noElement("all dropped", () -> Make.dropped(Make.filled(1), 0), y -> call.on(y, 0));
        Check.answers("32 of 32", Needs::telegrams32, Check.NO_ELEMENT, y -> call.on(y, 32));
    }

    private static void promise24() {
        Doc.section("Promise 24: telegramByRot");
        Doc.says("Returns the telegram at a rank by the greatest rot of its pages, in descending order, then by number in ascending"
                + " order.");
        TurnipPages x = Make.roots(0, 2, 5, 2);
        for (int root : new int[] {0, 1, 2, 3, 0, 2}) {
            Make.carve(x, root, root, "a");
        }
        x.age(3);
        ranks(x, TurnipPages::telegramByRot, 2, 5, 1, 3, 0, 4);
        x.age(1);
        x.move(1, 2);
        x.age(20);
        ranks(x, TurnipPages::telegramByRot, 1, 2, 3, 5, 0, 4);
        Doc.says("- `rank`: the rank, from 0");
        Check.answers("0", Needs::telegrams, 2, y -> y.telegramByRot(0));
        Doc.says("Returns the number of the telegram.");
        Check.answers("1", Needs::telegrams, 0, y -> y.telegramByRot(1));
        Check.answers("31", Needs::telegrams32, 31, y -> y.telegramByRot(31));
        Doc.says("Throws `NoSuchElementException` if there is no such rank");
        noRanks(TurnipPages::telegramByRot);
    }

    private static void promise25And26() {
        Doc.section("Promise 25: rootOf");
        Doc.says("Returns the root of a telegram.");
        Check.answers("carved there", Needs::telegrams, 2, x -> x.rootOf(2));
        Check.answers("moved there", () -> Make.moved(Needs.telegrams(), 2, 1), 1, x -> x.rootOf(2));
        Doc.says("Returns the index of the root.");
        Check.answers("0", Needs::telegrams, 0, x -> x.rootOf(0));
        Check.answers("3", Needs::telegrams32, 3, x -> x.rootOf(31));
        Needs.telegram(NO_TELEGRAM, TurnipPages::rootOf);
        Doc.section("Promise 26: checksumOf");
        Doc.says("Returns the checksum that is kept with a telegram.");
        Check.answers("of the text", () -> Make.carved(Make.roots(0), 0, "aaab"), 4, x -> x.checksumOf(0));
        Check.answers("damaged", () -> Make.damaged("abd", 0), 8, x -> x.checksumOf(0));
        Check.answers("rotten", () -> Make.damaged("abd", 4), 8, x -> x.checksumOf(0));
        Doc.says("Returns the checksum.");
        Check.answers("0", () -> Make.carved(Make.roots(0), 0, "a"), 0, x -> x.checksumOf(0));
        Check.answers("96", () -> Make.carved(Make.roots(0), 0, "`"), 96, x -> x.checksumOf(0));
        Needs.telegram(NO_TELEGRAM, TurnipPages::checksumOf);
    }

    private static void promise27And28() {
        Doc.section("Promise 27: codeLength");
        Doc.says("Returns the number of characters of the code of a telegram.");
        Check.answers("not of the text", Needs::longRun, 2, x -> x.codeLength(0));
        Check.answers("with escapes", () -> Make.carved(Make.roots(0), 0, "11"), 4, x -> x.codeLength(0));
        Doc.says("Returns the number of characters.");
        Check.answers("1", () -> Make.carved(Make.roots(0), 0, "a"), 1, x -> x.codeLength(0));
        Check.answers("80", () -> Make.carved(Make.roots(0), 0, "0123456789".repeat(4)), 80, x -> x.codeLength(0));
        Needs.telegram(NO_TELEGRAM, TurnipPages::codeLength);
        Doc.section("Promise 28: codeCharacter");
        Doc.says("Returns a character of the code of a telegram, rotten or not.");
        Check.answers("not rotten", () -> Make.damaged("xbc", 3), 'x', x -> x.codeCharacter(0, 0));
        Check.answers("rotten", () -> Make.damaged("xbc", 4), 'x', x -> x.codeCharacter(0, 0));
        Doc.says("Returns the character.");
        Check.answers("the first", Make::used, '4', x -> x.codeCharacter(0, 0));
        Check.answers("the last", Make::used, 'b', x -> x.codeCharacter(0, 6));
        Check.answers("on the second page", Needs::telegrams, 's', x -> x.codeCharacter(2, 12));
        Needs.telegram(NO_TELEGRAM, (x, telegram) -> x.codeCharacter(telegram, 0));
        Doc.says("Throws `IndexOutOfBoundsException` if its code has no such character");
        for (int wrong : WRONG_INDEXES) {
            Check.noIndex("" + wrong + " of 7", Make::used, x -> x.codeCharacter(0, wrong));
        }
        Check.noIndex("2 of 2", Needs::longRun, x -> x.codeCharacter(0, 2));
    }

    private static void promise29(String section, String sentence, Needs.Numbered call) {
        Doc.section(section);
        Doc.says(sentence);
        String[] codes = {"abc", "3bc", "9bc", "a9b", "ab ", "\\3c", "\\\\c", "3\\3", "9\\\\"};
        int[] lengths = {3, 4, 10, 10, 3, 2, 2, 3, 9};
        for (int i = 0; i < codes.length; i++) {
            String code = codes[i];
            Check.answers(code, () -> Make.damaged(code, 0), lengths[i], x -> call.on(x, 0));
            Check.answers("rotten " + code, () -> Make.damaged(code, 4), lengths[i], x -> call.on(x, 0));
        }
        Doc.says("Returns the number of characters.");
        Check.answers("1", () -> Make.carved(Make.roots(0), 0, "a"), 1, x -> call.on(x, 0));
        Check.answers("40", () -> Make.carved(Make.roots(0), 0, "a".repeat(40)), 40, x -> call.on(x, 0));
        Check.answers("escapes", () -> Make.carved(Make.roots(0), 0, "12\\\\3334a"), 9, x -> call.on(x, 0));
        Check.answers("180", () -> Make.forged("9a".repeat(20), "a".repeat(180)), 180, x -> call.on(x, 0));
        Needs.telegram("Throws `NoSuchElementException` if there is no such telegram, or its code is invalid", call);
        for (String code : new String[] {"2bc", "ab2", "ab3", "ab\\", "a3\\", "33c", "\\bc"}) {
            Check.noElement(code, () -> Make.damaged(code, 0), x -> call.on(x, 0));
            Check.noElement("rotten " + code, () -> Make.damaged(code, 4), x -> call.on(x, 0));
        }
    }

    private static void promise31() {
        Doc.section("Promise 31: isReadable");
        Doc.says("Returns whether a telegram is readable.");
        Check.answers("new", () -> Make.carved(Make.roots(5), 0, "abc"), true, x -> x.isReadable(0));
        Check.answers("rot 15", () -> Make.damaged("abc", 3), true, x -> x.isReadable(0));
        Check.answers("rot 20", () -> Make.damaged("abc", 4), false, x -> x.isReadable(0));
        Check.answers("invalid", () -> Make.damaged("ab9", 0), false, x -> x.isReadable(0));
        Check.answers("another sum", () -> Make.damaged("abd", 0), false, x -> x.isReadable(0));
        Doc.says("Returns whether it is readable.");
        TurnipPages x = Make.damaged("abd", 0);
        x.damage(0, 2, 'c');
        Check.equal("mended", x.isReadable(0), true);
        x.age(4);
        Check.equal("rotten", x.isReadable(0), false);
        x.undo();
        Check.equal("undone", x.isReadable(0), true);
        Check.equal("asks only", Look.latestDenial(x) + " " + Look.line(x),
                Check.NO_ELEMENT + " " + Check.NO_ELEMENT + " " + Check.NO_ELEMENT + " ");
        Needs.telegram(NO_TELEGRAM, TurnipPages::isReadable);
    }
}
