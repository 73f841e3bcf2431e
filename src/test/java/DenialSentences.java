/** The paragraph "Denials" of "Terms" and promises 46 to 48, sentence by sentence. */
final class DenialSentences {
    private static final String NONE = "throws NoSuchElementException";

    private DenialSentences() {
    }

    static void check() {
        reasons();
        order();
        limits();
        emptyMessages();
        rottenPages();
        presentValues();
        invalidCodes();
        otherSums();
        failedCommands();
        causes();
        keptUntilTheNext();
        promise46();
        promise47();
        promise48();
    }

    /** The call is denied so. */
    private static void denies(String what, Check.Maker maker, int number, int detail, Check.Call call) {
        TurnipPages x = maker.make();
        Check.equal(what, Check.answer(x, call), Check.DENIED);
        Check.equal(what, Look.latestDenial(x), number + " " + detail + " " + NONE);
    }

    /** The commands are denied so. */
    private static void fails(Check.Maker maker, String commands, int index, int cause) {
        TurnipPages x = maker.make();
        Check.equal(commands, Make.execute(x, commands), Check.DENIED);
        Check.equal(commands, Look.latestDenial(x), "7 " + index + " " + cause);
    }

    private static void reasons() {
        Doc.section("Denials");
        Doc.says("Some calls are denied for a reason, which has a number and a detail.");
        denies("a call", () -> Make.roots(0), 4, 0, x -> x.dry(0));
    }

    private static void order() {
        Doc.says("Each method lists its possible denials in the order in which they are checked.");
        denies("carve: 2 before 1", () -> Make.filled(8), 2, 8, x -> x.carve(0, 0));
        denies("carve: 1 alone", () -> Make.message(Make.filled(8), "a"), 1, 8, x -> x.carve(0, 0));
        denies("recarve: 3 before 5", () -> Make.damaged("ab2", 4), 3, 0, x -> x.recarve(0));
        denies("recarve: 3 before 6", () -> Make.damaged("abd", 4), 3, 0, x -> x.recarve(0));
        denies("recarve: 3 before 1", () -> Make.aged(Make.growing(8), 20), 3, 0, x -> x.recarve(0));
        denies("recarve: 5 alone", () -> Make.damaged("ab2", 3), 5, 2, x -> x.recarve(0));
        denies("recarve: 6 before 1", () -> Make.damagedCode(Make.growing(8), 2, '0'), 6,
                Make.sum("0".repeat(8) + "1".repeat(3) + "2".repeat(11)), x -> x.recarve(0));
        denies("recarve: 1 alone", () -> Make.aged(Make.growing(8), 19), 1, 8, x -> x.recarve(0));
        denies("move: 4 before 1", () -> Make.filled(8), 4, 0, x -> x.move(0, 0));
        denies("move: 1 alone", Make::fullBeside, 1, 8, x -> x.move(8, 0));
        denies("read: 3 before 5", () -> Make.damaged("ab2", 4), 3, 0, x -> x.read(0));
        denies("read: 3 before 6", () -> Make.damaged("abd", 4), 3, 0, x -> x.read(0));
        denies("read: 5 alone", () -> Make.damaged("ab2", 3), 5, 2, x -> x.read(0));
        denies("read: 6 alone", () -> Make.damaged("abd", 3), 6, 11, x -> x.read(0));
    }

    private static void limits() {
        Doc.says("Denial 1: a limit is reached; the detail is the limit.");
        denies("a fifth root", () -> Make.roots(0, 0, 0, 0), 1, 4, x -> x.addRoot(3));
        Check.answers("a fourth root", () -> Make.roots(0, 0, 0), 3, x -> x.addRoot(3));
        denies("carve a ninth page", () -> Make.message(Make.filled(8), "a"), 1, 8, x -> x.carve(0, 0));
        Check.answers("carve an eighth page", () -> Make.message(Make.filled(7), "a"), 7, x -> x.carve(0, 0));
        denies("carve ten pages", () -> Make.message(Make.filled(7), "abcdefghijklmnopqrstuvwxy"), 1, 8, x -> x.carve(0, 0));
        denies("recarve to a ninth page", () -> Make.growing(8), 1, 8, x -> x.recarve(0));
        Check.answers("recarve to an eighth page", () -> Make.growing(7), 2, x -> x.recarve(0));
        denies("move a ninth page", Make::fullBeside, 1, 8, x -> x.move(8, 0));
        Check.answers("move an eighth page", () -> Make.carved(Make.filled(7), 1, "a"), 1, x -> x.move(7, 0));
    }

    private static void emptyMessages() {
        Doc.says("Denial 2: the message is empty; the detail is the number of telegrams.");
        denies("no telegrams", () -> Make.roots(0), 2, 0, x -> x.carve(0, 0));
        denies("one", () -> Make.filled(1), 2, 1, x -> x.carve(0, 0));
        denies("two of three", () -> Make.dropped(Make.filled(3), 0), 2, 2, x -> x.carve(0, 0));
        Check.answers("not empty", () -> Make.message(Make.filled(1), " "), 1, x -> x.carve(0, 0));
    }

    private static void rottenPages() {
        Doc.says("Denial 3: a page is rotten; the detail is the index of the first rotten page.");
        denies("read one page", () -> Make.damaged("abc", 4), 3, 0, x -> x.read(0));
        denies("recarve one page", () -> Make.damaged("abc", 4), 3, 0, x -> x.recarve(0));
        denies("read two pages", () -> Make.aged(Make.carved(Make.roots(1), 0, "thirteensigns"), 20), 3, 0, x -> x.read(0));
        Check.answers("one rot less", () -> Make.aged(Make.carved(Make.roots(1), 0, "thirteensigns"), 19), 13, x -> x.read(0));
    }

    private static void presentValues() {
        Doc.says("Denial 4: the value is the present one; the detail is this value, for a character its code.");
        denies("dampness 0", () -> Make.roots(0), 4, 0, x -> x.dry(0));
        Check.answers("dampness 1", () -> Make.roots(1), 0, x -> x.dry(0));
        for (int root = 0; root < 4; root++) {
            int same = root;
            denies("root " + root, () -> Make.carved(Make.roots(0, 0, 0, 0), same, "a"), 4, root, x -> x.move(0, same));
        }
        denies("the lowest character", () -> Make.carved(Make.roots(0), 0, "a "), 4, 32, x -> x.damage(0, 1, ' '));
        denies("the highest character", () -> Make.carved(Make.roots(0), 0, "~b"), 4, 126, x -> x.damage(0, 0, '~'));
        denies("the character of the code, not of the text", () -> Make.carved(Make.roots(0), 0, "7"), 4, 92,
                x -> x.damage(0, 0, '\\'));
    }

    private static void invalidCodes() {
        Doc.says("Denial 5: the code is invalid; the detail is its fault position.");
        String[] codes = {"0bc", "a1c", "ab2", "ab3", "ab\\", "a3\\", "33c", "\\bc"};
        int[] positions = {0, 1, 2, 3, 3, 3, 1, 1};
        for (int i = 0; i < codes.length; i++) {
            String code = codes[i];
            denies("read " + code, () -> Make.damaged(code, 0), 5, positions[i], x -> x.read(0));
            denies("recarve " + code, () -> Make.damaged(code, 0), 5, positions[i], x -> x.recarve(0));
        }
    }

    private static void otherSums() {
        Doc.says("Denial 6: the checksums differ; the detail is the checksum of the decoded text.");
        String[] codes = {"aaa", "aa`", "3~~", "abb"};
        String[] texts = {"aaa", "aa`", "~~~~", "abb"};
        for (int i = 0; i < codes.length; i++) {
            String code = codes[i];
            int sum = Make.sum(texts[i]);
            denies("read " + code, () -> Make.damaged(code, 0), 6, sum, x -> x.read(0));
            denies("recarve " + code, () -> Make.damaged(code, 0), 6, sum, x -> x.recarve(0));
        }
        denies("the checksum 0", () -> Make.damaged("aaa", 0), 6, 0, x -> x.read(0));
        denies("the checksum 96", () -> Make.carvedAs(Make.roots(0), "b", "`"), 6, 96, x -> x.read(0));
    }

    private static void failedCommands() {
        Doc.says("Denial 7: a command of a text failed; the detail is the index of the command, from 0.");
        fails(() -> Make.roots(0), "dry 0", 0, 4);
        fails(() -> Make.roots(1), "dry 0;dry 0", 1, 4);
        fails(() -> Make.roots(5), "age 1;".repeat(9) + "dry 8", 9, 8);
        fails(() -> Make.roots(5), "age 0;dry 9;root 9", 0, 8);
    }

    private static void causes() {
        Doc.says("Only denial 7 has a cause: the denial of the failed command with its detail, or denial 8 with detail 0 if the"
                + " command failed with an exception other than UnsupportedOperationException.");
        fails(() -> Make.roots(0, 0, 0, 0), "root 0", 0, 1);
        fails(() -> Make.roots(0), "dry 0", 0, 4);
        fails(() -> Make.damaged("abc", 4), "recarve 0", 0, 3);
        fails(() -> Make.damaged("ab2", 3), "recarve 0", 0, 5);
        fails(() -> Make.damaged("abd", 3), "recarve 0", 0, 6);
        fails(() -> Make.growing(8), "recarve 0", 0, 1);
        fails(Make::fullBeside, "move 8 1", 0, 4);
        fails(Make::fullBeside, "move 8 0", 0, 1);
        fails(Make::fresh, "root 6", 0, 8);
        fails(Make::fresh, "dry 0", 0, 8);
        fails(Make::fresh, "age 0", 0, 8);
        fails(Make::fresh, "age 21", 0, 8);
        fails(Make::fresh, "recarve 0", 0, 8);
        fails(Make::fresh, "move 0 0", 0, 8);
        fails(Make::fullBeside, "move 8 2", 0, 8);
        fails(Make::fresh, "drop 0", 0, 8);
        denies("a call by itself has none", () -> Make.roots(0), 4, 0, x -> x.dry(0));
    }

    private static void keptUntilTheNext() {
        Doc.says("The number, the detail and the cause of the latest denial are kept until the next denial.");
        TurnipPages x = Make.damaged("ab2", 0);
        Make.execute(x, "age 1;recarve 0");
        Check.equal("with a cause", Look.latestDenial(x), "7 1 5");
        x.saveSnapshot();
        x.age(1);
        x.undo();
        x.restoreSnapshot();
        Check.answer(x, y -> y.age(21));
        Check.answer(x, y -> y.rootOf(1));
        Make.execute(x, "age");
        Make.execute(x, "age 1");
        x.isReadable(0);
        Check.equal("kept", Look.latestDenial(x), "7 1 5");
        Check.answer(x, y -> y.read(0));
        Check.equal("the next has no cause", Look.latestDenial(x), "5 2 " + NONE);
        x.damage(0, 2, 'c');
        x.read(0);
        Check.equal("kept without a cause", Look.latestDenial(x), "5 2 " + NONE);
        Make.execute(x, "dry 1");
        Check.equal("the next has one", Look.latestDenial(x), "7 0 8");
    }

    private static void promise46() {
        Doc.section("Promise 46: denial");
        Doc.says("Returns the number of the latest denial.");
        TurnipPages x = Make.roots(0);
        Check.answer(x, y -> y.carve(0, 0));
        Check.equal("the first", x.denial(), 2);
        Check.answer(x, y -> y.dry(0));
        Check.equal("the latest", x.denial(), 4);
        Doc.says("Returns the number, 1 to 7.");
        Check.equal("1", denialAfter(Make.roots(0, 0, 0, 0), y -> y.addRoot(0)), 1);
        Check.equal("2", denialAfter(Make.roots(0), y -> y.carve(0, 0)), 2);
        Check.equal("3", denialAfter(Make.damaged("abc", 4), y -> y.read(0)), 3);
        Check.equal("4", denialAfter(Make.damaged("abc", 0), y -> y.damage(0, 0, 'a')), 4);
        Check.equal("5", denialAfter(Make.damaged("ab2", 0), y -> y.recarve(0)), 5);
        Check.equal("6", denialAfter(Make.damaged("abd", 0), y -> y.recarve(0)), 6);
        Make.feed(x, "dry 0");
        Check.equal("7", denialAfter(x, TurnipPages::execute), 7);
        Doc.says("Throws `NoSuchElementException` if nothing was denied yet");
        Check.noElement("new", Make::fresh, TurnipPages::denial);
        Check.noElement("after exceptions that are no denials", DenialSentences::refusedOnly, TurnipPages::denial);
    }

    private static int denialAfter(TurnipPages x, Check.Call call) {
        Check.answer(x, call);
        return x.denial();
    }

    /** Calls failed, and commands did not match, but nothing was denied. */
    private static TurnipPages refusedOnly() {
        TurnipPages x = Make.damaged("ab2", 0);
        Check.answer(x, y -> y.type((char) 31));
        Check.answer(x, y -> y.addRoot(6));
        Check.answer(x, y -> y.dry(1));
        Check.answer(x, y -> y.carve(1, 0));
        Check.answer(x, y -> y.carve(0, 10));
        Check.answer(x, y -> y.damage(1, 0, 'a'));
        Check.answer(x, y -> y.age(0));
        Check.answer(x, y -> y.decodedLength(0));
        Check.answer(x, y -> y.isReadable(0));
        Make.execute(x, "dry 0;");
        Make.execute(x, "dry 0");
        return x;
    }

    private static void promise47() {
        Doc.section("Promise 47: denialDetail");
        Doc.says("Returns the detail of the latest denial.");
        TurnipPages x = Make.carved(Make.roots(0, 0), 1, "a");
        Check.answer(x, y -> y.carve(0, 0));
        Check.equal("the first", x.denialDetail(), 1);
        Check.answer(x, y -> y.damage(0, 0, 'a'));
        Check.equal("the latest", x.denialDetail(), 97);
        Doc.says("Returns the detail.");
        Check.answer(x, y -> y.dry(0));
        Check.equal("0", x.denialDetail(), 0);
        Doc.says("Throws `NoSuchElementException` if nothing was denied yet");
        Check.noElement("new", Make::fresh, TurnipPages::denialDetail);
        Check.noElement("after exceptions that are no denials", DenialSentences::refusedOnly, TurnipPages::denialDetail);
    }

    private static void promise48() {
        Doc.section("Promise 48: denialCause");
        Doc.says("Returns the number of the cause of the latest denial.");
        TurnipPages x = Make.roots(0);
        Make.execute(x, "dry 1");
        Check.equal("the first", x.denialCause(), 8);
        Make.execute(x, "dry 0");
        Check.equal("the latest", x.denialCause(), 4);
        Doc.says("Returns the number, 1 to 6 or 8.");
        fails(() -> Make.roots(0, 0, 0, 0), "root 0", 0, 1);
        fails(() -> Make.damaged("abd", 3), "dry 0;recarve 0", 1, 6);
        fails(Make::fresh, "drop 99", 0, 8);
        Doc.says("Throws `NoSuchElementException` if nothing was denied yet, or the latest denial has no cause");
        Check.noElement("new", Make::fresh, TurnipPages::denialCause);
        Check.noElement("after exceptions that are no denials", DenialSentences::refusedOnly, TurnipPages::denialCause);
        Check.answer(x, y -> y.dry(0));
        Check.equal("denial 4 behind a denial 7", Check.answer(x, TurnipPages::denialCause), Check.NO_ELEMENT);
        Check.equal("it has a number", x.denial(), 4);
    }
}
