/** Promises 1 to 8: a new object and the message. */
public final class MessageTest {
    public static void main(String[] args) {
        promise1();
        promise2();
        promise3();
        promise4And5And6();
        promise6();
        promise7();
        promise7Faults();
        promise8();
        Check.end("MessageTest");
    }

    private static void promise1() {
        TurnipPages x = new TurnipPages();
        Check.equal("1 roots", x.rootCount(), 0);
        Check.equal("1 telegrams", x.telegramCount(), 0);
        Check.equal("1 day", x.day(), 0);
        Check.equal("1 carved", x.carvedCharacters(), 0);
        Check.equal("1 rotten", x.rottenPages(), 0);
        Check.equal("1 changes", x.undoCount(), 0);
        Check.equal("1 message", x.clearMessage(), 0);
        Check.equal("1 line", Look.line(x), "");
        Check.equal("1 denial", Look.latestDenial(x),
                "throws NoSuchElementException throws NoSuchElementException throws NoSuchElementException");
        Check.equal("1 fault", Look.fault(x), "throws NoSuchElementException");
        Check.equal("1 snapshot", Check.answer(x, TurnipPages::restoreSnapshot), "throws IllegalStateException");
        Check.equal("1 buffer", x.feed('r'), 1);
        TurnipPages other = Make.roots(3);
        Check.equal("1 objects share nothing", new TurnipPages().rootCount() + other.rootCount(), 1);
    }

    private static void promise2() {
        TurnipPages x = new TurnipPages();
        Check.equal("2 lowest", x.type((char) 32), 1);
        Check.equal("2 highest", x.type((char) 126), 2);
        Check.equal("2 text", encoded(x), " ~");
        for (char wrong : new char[] {0, 31, 127, 128, 255, 256, 0x2603, 65535}) {
            Check.badArgument("2 type " + (int) wrong, Make::used, y -> y.type(wrong));
        }
        Check.equal("2 up to 40", typedFull().encodedLength(), 40);
        Check.badState("2 the 41st", MessageTest::typedFull, y -> y.type('c'));
        Check.badArgument("2 the 41st and wrong", MessageTest::typedFull, y -> y.type((char) 127));
    }

    private static TurnipPages typedFull() {
        TurnipPages x = new TurnipPages();
        for (int i = 0; i < 40; i++) {
            Check.equal("2 length", x.type(i % 2 == 0 ? 'a' : 'b'), i + 1);
        }
        return x;
    }

    private static void promise3() {
        TurnipPages x = new TurnipPages();
        Check.equal("3 empty", x.clearMessage(), 0);
        Make.type(x, "abc");
        Check.equal("3 three", x.clearMessage(), 3);
        Check.equal("3 again", x.clearMessage(), 0);
        Check.equal("3 nothing stays", x.encodedLength(), 0);
        Check.equal("3 full", typedFull().clearMessage(), 40);
        Check.equal("3 no change", Make.used().undoCount(), clearedUsed().undoCount());
    }

    private static TurnipPages clearedUsed() {
        TurnipPages x = Make.used();
        x.clearMessage();
        return x;
    }

    private static void promise4And5And6() {
        encodes("", "");
        encodes("a", "a");
        encodes("aa", "aa");
        encodes("aaa", "3a");
        encodes("aaaaaaaaa", "9a");
        encodes("aaaaaaaaaa", "9aa");
        encodes("aaaaaaaaaaa", "9aaa");
        encodes("aaaaaaaaaaaa", "9a3a");
        encodes("a".repeat(18), "9a9a");
        encodes("a".repeat(40), "9a9a9a9a4a");
        encodes("0", "\\0");
        encodes("99", "\\9\\9");
        encodes("777", "3\\7");
        encodes("1".repeat(11), "9\\1\\1\\1");
        encodes("\\", "\\\\");
        encodes("\\\\", "\\\\\\\\");
        encodes("\\\\\\", "3\\\\");
        encodes("/:", "/:");
        encodes("aaaab77 ended.", "4ab\\7\\7 ended.");
        encodes("abab", "abab");
        encodes("0123456789".repeat(4), "\\0\\1\\2\\3\\4\\5\\6\\7\\8\\9".repeat(4));
    }

    private static void encodes(String text, String code) {
        TurnipPages x = Make.roots(1);
        Make.type(x, text);
        Check.equal("4 " + text, x.encodedLength(), code.length());
        Check.equal("4 keeps the line", Look.line(x), "");
        Check.equal("5 " + text, x.encodedLengthByRuns(), code.length());
        Check.equal("5 keeps the line", Look.line(x), "");
        Check.equal("6 " + text, x.encode(), code.length());
        Check.equal("6 line of " + text, Look.line(x), code);
        Check.equal("6 the message stays", x.clearMessage(), text.length());
    }

    private static void promise6() {
        TurnipPages x = new TurnipPages();
        Make.type(x, "a long line");
        x.encode();
        x.clearMessage();
        Make.type(x, "b");
        Check.equal("6 replaces", x.encode(), 1);
        Check.equal("6 replaced", Look.line(x), "b");
        Check.equal("6 is no change", x.undoCount(), 0);
        x.clearMessage();
        Check.equal("6 nothing", x.encode(), 0);
        Check.equal("6 empty line", Look.line(x), "");
    }

    private static String encoded(TurnipPages x) {
        x.encode();
        return Look.line(x);
    }

    private static void promise7() {
        decodes("", "");
        decodes("a", "a");
        decodes("3a", "aaa");
        decodes("9a9a", "a".repeat(18));
        decodes("aaaa", "aaaa");
        decodes("3aa", "aaaa");
        decodes("\\0\\9\\\\", "09\\");
        decodes("3\\04\\\\", "000\\\\\\\\");
        decodes("8\\13\\1", "1".repeat(11));
        decodes("4ab\\7 ended.", "aaaab7 ended.");
        decodes("9 9~".repeat(10), ("         " + "~~~~~~~~~").repeat(10));
        TurnipPages x = new TurnipPages();
        Make.type(x, "4z");
        x.decode();
        x.clearMessage();
        x.decode();
        Check.equal("7 replaces", Look.line(x), "");
        Check.equal("7 a valid code keeps no fault", Look.fault(x), "throws NoSuchElementException");
    }

    private static void decodes(String code, String text) {
        TurnipPages x = new TurnipPages();
        Make.type(x, code);
        Check.equal("7 " + code, x.decode(), text.length());
        Check.equal("7 line of " + code, Look.line(x), text);
        Check.equal("7 the message stays", x.clearMessage(), code.length());
        Check.equal("7 is no change", x.undoCount(), 0);
    }

    private static void promise7Faults() {
        faults("0", 0);
        faults("1a", 0);
        faults("2a", 0);
        faults("a2a", 1);
        faults("3", 1);
        faults("9", 1);
        faults("33a", 1);
        faults("30", 1);
        faults("\\", 1);
        faults("\\a", 1);
        faults("\\ ", 1);
        faults("3\\", 2);
        faults("3\\a", 2);
        faults("\\\\\\", 3);
        faults("3a3", 3);
        faults("abc9", 4);
        faults("\\12", 2);
        faults("3\\13\\/", 5);
        faults("a".repeat(39) + "5", 40);
        TurnipPages x = new TurnipPages();
        Make.type(x, "ab1");
        Check.answer(x, TurnipPages::decode);
        x.clearMessage();
        Make.type(x, "3a");
        x.decode();
        Check.equal("7 a valid code keeps the fault before", x.faultPosition(), 2);
    }

    private static void faults(String code, int position) {
        TurnipPages tried = messageOf(code);
        TurnipPages twin = messageOf(code);
        Check.equal("7 " + code, Check.answer(tried, TurnipPages::decode), "throws IllegalArgumentException");
        Check.equal("7 fault of " + code, Check.answer(tried, TurnipPages::faultPosition), position);
        Check.equal("7 keeps the denial", Look.latestDenial(tried), Look.latestDenial(twin));
        Check.equal("7 keeps the state", Look.at(tried), Look.at(twin));
    }

    private static TurnipPages messageOf(String text) {
        TurnipPages x = Make.used();
        x.clearMessage();
        Make.type(x, text);
        return x;
    }

    private static void promise8() {
        TurnipPages x = new TurnipPages();
        Check.equal("8 empty", x.messageChecksum(), 0);
        x.type('a');
        Check.equal("8 a", x.messageChecksum(), 0);
        x.type('b');
        Check.equal("8 ab", x.messageChecksum(), (97 + 2 * 98) % 97);
        x.clearMessage();
        Make.type(x, "ba");
        Check.equal("8 ba", x.messageChecksum(), (98 + 2 * 97) % 97);
        x.clearMessage();
        Make.type(x, "~".repeat(40));
        Check.equal("8 forty", x.messageChecksum(), 126 * 820 % 97);
        x.clearMessage();
        x.type('`');
        Check.equal("8 96", x.messageChecksum(), 96);
        Check.equal("8 the message stays", x.clearMessage(), 1);
    }
}
