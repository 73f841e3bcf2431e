/** Promises 1 to 8, sentence by sentence. */
final class MessageSentences {
    private MessageSentences() {
    }

    static void check() {
        promise1();
        promise2();
        promise3();
        promise4();
        promise5();
        promise6();
        promise7();
        promise7Faults();
        promise8();
    }

    private static TurnipPages message(String text) {
        return Make.message(Make.fresh(), text);
    }

    private static TurnipPages typed(int length) {
        return message("ab".repeat(20).substring(0, length));
    }

    private static void promise1() {
        Doc.section("Promise 1: A new object");
        Doc.says("Creates a store without roots and telegrams.");
        Check.answers("roots", Make::fresh, 0, TurnipPages::rootCount);
        Check.answers("the first root", Make::fresh, Check.NO_INDEX, x -> x.dampness(0));
        Check.answers("telegrams", Make::fresh, 0, TurnipPages::telegramCount);
        Check.answers("the first telegram", Make::fresh, Check.NO_INDEX, x -> x.telegramAt(0));
        Check.answers("its root", Make::fresh, Check.NO_ELEMENT, x -> x.rootOf(0));
        Check.answers("rotten pages", Make::fresh, 0, TurnipPages::rottenPages);
        Check.answers("message", Make::fresh, 0, TurnipPages::clearMessage);
        Check.answers("buffer", Make::fresh, 1, x -> x.feed('a'));
        Check.answers("line", Make::fresh, Check.NO_INDEX, x -> x.lineCharacter(0));
        Check.answers("day", Make::fresh, 0, TurnipPages::day);
        Check.answers("carved", Make::fresh, 0, TurnipPages::carvedCharacters);
        Check.answers("changes", Make::fresh, 0, TurnipPages::undoCount);
        Check.answers("undo", Make::fresh, Check.BAD_STATE, TurnipPages::undo);
        Check.answers("snapshot", Make::fresh, Check.BAD_STATE, TurnipPages::restoreSnapshot);
        Check.answers("fault", Make::fresh, Check.NO_ELEMENT, TurnipPages::faultPosition);
        Check.answers("denial", Make::fresh, Check.NO_ELEMENT, TurnipPages::denial);
    }

    private static void promise2() {
        Doc.section("Promise 2: type");
        Doc.says("Appends a character to the message.");
        TurnipPages x = message("ba");
        x.type('c');
        x.encode();
        Check.equal("behind the others", Look.line(x), "bac");
        Doc.says("Returns the length of the message afterwards.");
        for (int length : new int[] {0, 1, 38, 39}) {
            Check.answers("" + length, () -> typed(length), length + 1, y -> y.type('c'));
        }
        Doc.says("Throws `IllegalArgumentException` if the code of the character is not from 32 to 126");
        for (char wrong : new char[] {0, 9, 10, 31, 127, 128, 160, 255, 288, 65535}) {
            Check.badArgument("" + (int) wrong, Make::used, y -> y.type(wrong));
        }
        for (char right = 32; right <= 126; right++) {
            char sign = right;
            Check.answers("" + (int) right, Make::fresh, 1, y -> y.type(sign));
        }
        Doc.says("Throws `IllegalStateException` if the message has 40 characters");
        Check.badState("40", () -> typed(40), y -> y.type('c'));
        Check.answers("39", () -> typed(39), 40, y -> y.type('c'));
        TurnipPages full = typed(40);
        Check.answer(full, y -> y.type('c'));
        Check.equal("40 stay", full.clearMessage(), 40);
        Check.equal("then there is room", full.type('c'), 1);
    }

    private static void promise3() {
        Doc.section("Promise 3: clearMessage");
        Doc.says("Empties the message.");
        TurnipPages x = message("aaaab7");
        x.clearMessage();
        Check.equal("no code", x.encodedLength() + " " + x.encodedLengthByRuns() + " " + x.messageChecksum(), "0 0 0");
        Check.equal("the first again", x.type('a'), 1);
        Check.equal("is no change", Check.answer(x, TurnipPages::undo), Check.BAD_STATE);
        Doc.says("Returns the number of characters it had.");
        for (int length : new int[] {0, 1, 39, 40}) {
            Check.answers("" + length, () -> typed(length), length, TurnipPages::clearMessage);
        }
    }

    private static final String[] TEXTS = {"", "a", "aa", "aaa", "x".repeat(9), "x".repeat(10), "x".repeat(11), "x".repeat(12),
        "x".repeat(18), "x".repeat(40), "1", "11", "111", "1".repeat(10), "\\", "\\\\", "\\\\\\", "0123456789".repeat(4),
        "aab77\\\\\\b", "ab".repeat(20)};
    private static final int[] LENGTHS = {0, 1, 2, 2, 2, 3, 4, 4, 4, 10, 2, 4, 3, 5, 2, 4, 3, 80, 11, 40};

    private static void promise4() {
        Doc.section("Promise 4: encodedLength");
        Doc.says("Returns the length of the code of the message, found by encoding it.");
        for (int i = 0; i < TEXTS.length; i++) {
            String text = TEXTS[i];
            Check.answers(text, () -> message(text), LENGTHS[i], TurnipPages::encodedLength);
        }
        Doc.says("Returns the number of characters.");
        Check.answers("none", Make::fresh, 0, TurnipPages::encodedLength);
        TurnipPages x = Make.message(Make.roots(1), "abc");
        x.encode();
        x.type('d');
        x.encodedLength();
        Check.equal("line and message stay", Look.line(x) + " " + x.clearMessage(), "abc 4");
    }

    private static void promise5() {
        Doc.section("Promise 5: encodedLengthByRuns");
        Doc.says("Returns the same number as encodedLength, computed run by run without encoding.");
        for (int i = 0; i < TEXTS.length; i++) {
            String text = TEXTS[i];
            Check.answers(text, () -> message(text), LENGTHS[i], TurnipPages::encodedLengthByRuns);
        }
        Doc.says("Returns the number of characters.");
        Check.answers("none", Make::fresh, 0, TurnipPages::encodedLengthByRuns);
        for (char sign : "a0\\".toCharArray()) {
            for (int length = 0; length <= 40; length++) {
                TurnipPages x = message(("" + sign).repeat(length));
                Check.equal(length + " of " + sign, x.encodedLengthByRuns(), x.encodedLength());
            }
        }
    }

    private static void promise6() {
        Doc.section("Promise 6: encode");
        Doc.says("Writes the code of the message as the output line, which replaces the previous one.");
        TurnipPages x = message("aaaa7");
        x.encode();
        Check.equal("the code", Look.line(x), "4a\\7");
        x.clearMessage();
        x.type('b');
        x.encode();
        Check.equal("a shorter one", Look.line(x), "b");
        x.clearMessage();
        x.encode();
        Check.equal("an empty one", Look.line(x), "");
        Doc.says("The message stays.");
        x = message("aaaa7");
        x.encode();
        Check.equal("its length", x.type('7'), 6);
        x.encode();
        Check.equal("its characters", Look.line(x), "4a\\7\\7");
        Doc.says("Returns the length of the line.");
        for (int i = 0; i < TEXTS.length; i++) {
            String text = TEXTS[i];
            Check.answers(text, () -> message(text), LENGTHS[i], TurnipPages::encode);
        }
    }

    private static void promise7() {
        Doc.section("Promise 7: decode");
        Doc.says("Takes the message for a code and writes the decoded text as the output line, which replaces the previous one.");
        TurnipPages x = message("4a\\7");
        x.decode();
        Check.equal("the text", Look.line(x), "aaaa7");
        x.clearMessage();
        x.type('b');
        x.decode();
        Check.equal("a shorter one", Look.line(x), "b");
        x.clearMessage();
        x.decode();
        Check.equal("an empty one", Look.line(x), "");
        Doc.says("The message stays.");
        x = message("4a\\7");
        x.decode();
        Check.equal("its length", x.type('a'), 5);
        x.decode();
        Check.equal("its characters", Look.line(x), "aaaa7a");
        Doc.says("Returns the length of the line.");
        String[] codes = {"", "a", "3a", "9a", "\\3", "3\\3", "9a9a", "9~".repeat(20), "a".repeat(40), "\\\\".repeat(20)};
        int[] lengths = {0, 1, 3, 9, 1, 3, 18, 180, 40, 20};
        for (int i = 0; i < codes.length; i++) {
            String code = codes[i];
            Check.answers(code, () -> message(code), lengths[i], TurnipPages::decode);
        }
    }

    private static void promise7Faults() {
        Doc.says("Throws `IllegalArgumentException` if the message is not a valid code; the fault position is kept");
        String[] codes = {"0", "2a", "3", "33", "\\", "\\a", "a\\", "ab1", "9\\", "9\\]", "a".repeat(39) + "\\"};
        int[] positions = {0, 0, 1, 1, 1, 1, 2, 2, 2, 2, 40};
        for (int i = 0; i < codes.length; i++) {
            String code = codes[i];
            TurnipPages x = lined(code);
            Check.equal(code, Check.answer(x, TurnipPages::decode), Check.BAD_ARGUMENT);
            Check.equal("fault of " + code, x.faultPosition(), positions[i]);
            Check.equal("the rest of " + code, Look.at(x), Look.at(lined(code)));
        }
        TurnipPages x = message("1");
        Check.answer(x, TurnipPages::decode);
        x.clearMessage();
        x.decode();
        Check.equal("a valid one keeps it", x.faultPosition(), 0);
    }

    /** The message is an invalid code, and the line that of a telegram. */
    private static TurnipPages lined(String code) {
        TurnipPages x = Make.used();
        x.clearMessage();
        return Make.message(x, code);
    }

    private static void promise8() {
        Doc.section("Promise 8: messageChecksum");
        Doc.says("Returns the checksum of the message.");
        Check.answers("one character", () -> message("b"), 1, TurnipPages::messageChecksum);
        Check.answers("two", () -> message("bb"), 3, TurnipPages::messageChecksum);
        Check.answers("40", () -> message("b".repeat(40)), 820 % 97, TurnipPages::messageChecksum);
        Check.answers("of the text, not of its code", () -> message("aaab"), 4, TurnipPages::messageChecksum);
        Doc.says("Returns the checksum, 0 for an empty message.");
        Check.answers("empty", Make::fresh, 0, TurnipPages::messageChecksum);
        Check.answers("0 for another", () -> message("a"), 0, TurnipPages::messageChecksum);
        Check.answers("96", () -> message("`"), 96, TurnipPages::messageChecksum);
    }
}
