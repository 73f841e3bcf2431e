/** Promises 41 to 45: commands and output lines. */
public final class CommandTest {
    public static void main(String[] args) {
        promise41();
        promise42();
        promise42Longest();
        promise42Faults();
        promise42Denials();
        promise43();
        promise44();
        promise45();
        Check.end("CommandTest");
    }

    private static void promise41() {
        TurnipPages x = new TurnipPages();
        char[] any = {'r', 0, 31, 127, 255, 256, 0x2603, 65535};
        for (int i = 0; i < any.length; i++) {
            Check.equal("41 any character", x.feed(any[i]), i + 1);
        }
        Check.equal("41 is no change", x.undoCount(), 0);
        TurnipPages y = new TurnipPages();
        for (int i = 0; i < 60; i++) {
            Check.equal("41 length", y.feed('a'), i + 1);
        }
        Check.equal("41 the 61st", Check.answer(y, z -> z.feed('a')), "throws IllegalStateException");
        Check.equal("41 keeps the buffer", Check.answer(y, TurnipPages::execute) + " " + y.faultPosition(),
                "throws IllegalArgumentException 1");
        Check.equal("41 empty again", y.feed('a'), 1);
        Check.badState("41 full", CommandTest::fullBuffer, z -> z.feed('0'));
    }

    private static TurnipPages fullBuffer() {
        TurnipPages x = Make.roots(5);
        Make.feed(x, "age 1;".repeat(8) + "move 00 0;ag");
        return x;
    }

    private static void promise42() {
        TurnipPages x = new TurnipPages();
        Check.equal("42 root", Make.execute(x, "root 3"), 1);
        Check.equal("42 its dampness", x.dampness(0), 3);
        Check.equal("42 several", Make.execute(x, "root 0;root 5;dry 2;dry 0"), 4);
        Check.equal("42 in their order", x.dampness(0) + " " + x.dampness(1) + " " + x.dampness(2), "2 0 4");
        Check.equal("42 one change each", x.undoCount(), 2);
        Make.carve(x, 0, 0, "abc");
        Make.carve(x, 0, 0, "def");
        Check.equal("42 age", Make.execute(x, "age 3"), 1);
        Check.equal("42 its rot", x.rotOf(0, 0), 6);
        Check.equal("42 two digits", Make.execute(x, "age 04"), 1);
        Check.equal("42 its days", x.day(), 7);
        Check.equal("42 move and age", Make.execute(x, "move 1 2;age 1"), 2);
        Check.equal("42 moved", x.rootOf(1) + " " + x.rotOf(1, 0) + " " + x.rotOf(0, 0), "2 18 16");
        Check.equal("42 recarve", Make.execute(x, "recarve 1;recarve 00"), 2);
        Check.equal("42 carved anew", x.rotOf(1, 0) + " " + x.rotOf(0, 0), "0 0");
        Check.equal("42 drop", Make.execute(x, "drop 0;move 01 1;dry 2"), 3);
        Check.equal("42 dropped", x.telegramCount() + " " + x.telegramAt(0) + " " + x.rootOf(1), "1 1 1");
        Check.equal("42 the buffer is empty", x.feed('q'), 1);
        Check.equal("42 no fault", Look.fault(x), "throws NoSuchElementException");
        TurnipPages many = Make.roots(0);
        for (int i = 0; i < 12; i++) {
            Make.carve(many, 0, 0, "t");
            many.drop(i);
        }
        Make.carve(many, 0, 0, "u");
        Check.equal("42 a number of two digits", Make.execute(many, "drop 12"), 1);
        Check.equal("42 the twelfth", many.telegramCount(), 0);
    }

    private static void promise42Longest() {
        TurnipPages x = new TurnipPages();
        Check.equal("42 ten commands", Make.execute(x, "age 1;".repeat(9) + "age 12"), 10);
        Check.equal("42 their days", x.day(), 21);
        Check.equal("42 one change", x.undoCount(), 1);
        Check.commandFault(Make::fresh, "age 1;".repeat(10), 60);
        Check.commandFault(Make::fresh, "age 1;".repeat(9) + "age 1x", 59);
        Check.commandFault(Make::fresh, "age 1;".repeat(9) + "age ;;", 58);
        Check.commandDenied("42 the tenth", Make::fresh, "age 1;".repeat(9) + "age 99", 9, 8);
    }

    private static void promise42Faults() {
        String[] early = {"", "r", "ro", "root", "root ", "re", "recarve", "recarve ", "d", "dr", "dry", "dry ", "drop",
            "drop ", "a", "age", "age ", "m", "move", "move ", "move 1", "move 12", "move 12 ", "age 1;", "dry 0;d"};
        for (String commands : early) {
            faults(commands, commands.length());
        }
        faults(";", 0);
        faults(" ", 0);
        faults("x", 0);
        faults("Root 1", 0);
        faults("\u00001", 0);
        faults("\u2603", 0);
        faults("root\t1", 4);
        faults("root  1", 5);
        faults("root x", 5);
        faults("root 12", 6);
        faults("root 1 ", 6);
        faults("root -1", 5);
        faults("root \u0660", 5);
        faults("rot", 2);
        faults("rex", 2);
        faults("recarved", 7);
        faults("recarve a", 8);
        faults("recarve 123", 10);
        faults("dr 1", 2);
        faults("dro 1", 3);
        faults("drop;", 4);
        faults("dry 10", 5);
        faults("dry :", 4);
        faults("dry /", 4);
        faults("drop 9 1", 6);
        faults("age;", 3);
        faults("age 100", 6);
        faults("age 1,", 5);
        faults("move 1;", 6);
        faults("move 123 1", 7);
        faults("move 1  1", 7);
        faults("move 1 12", 8);
        faults("move  1 1", 5);
        faults("move 12;", 7);
        faults("age 1; age 1", 6);
        faults("age 1;;", 6);
        faults("age 1;root 1;dxy", 14);
        faults("age 1\u0000", 5);
    }

    private static void faults(String commands, int position) {
        Check.commandFault(Make::usedWithoutCommands, commands, position);
        Check.commandFault(Make::fresh, "dry 0;" + commands, 6 + position);
    }

    private static TurnipPages denying() {
        TurnipPages x = Make.roots(5, 0, 1, 1);
        Make.carve(x, 0, 0, "abc");
        Make.carve(x, 1, 0, "0123456789".repeat(4));
        Make.carve(x, 2, 0, "thirteensigns");
        x.saveSnapshot();
        return x;
    }

    private static void promise42Denials() {
        Check.commandDenied("42 five roots", CommandTest::denying, "root 1", 0, 1);
        Check.commandDenied("42 dampness before five roots", CommandTest::denying, "root 6", 0, 8);
        Check.commandDenied("42 dampness", Make::fresh, "root 5;root 6", 1, 8);
        Check.commandDenied("42 dry", CommandTest::denying, "dry 0;dry 0;dry 0;dry 0;dry 0;dry 0", 5, 4);
        Check.commandDenied("42 no root", CommandTest::denying, "age 1;dry 4", 1, 8);
        Check.commandDenied("42 no days", CommandTest::denying, "drop 0;age 0", 1, 8);
        Check.commandDenied("42 days 00", CommandTest::denying, "age 00", 0, 8);
        Check.commandDenied("42 days 21", CommandTest::denying, "age 20;age 21", 1, 8);
        Check.commandDenied("42 recarve none", CommandTest::denying, "drop 0;recarve 0", 1, 8);
        Check.commandDenied("42 recarve rotten", CommandTest::denying, "age 4;recarve 0", 1, 3);
        Check.commandDenied("42 recarve invalid", () -> damaged('1'), "move 0 2;recarve 0", 1, 5);
        Check.commandDenied("42 recarve checksums", () -> damaged('b'), "dry 0;recarve 2;recarve 0", 2, 6);
        Check.commandDenied("42 recarve no room", CommandTest::growing, "age 1;recarve 3", 1, 1);
        Check.commandDenied("42 move none", CommandTest::denying, "move 9 1", 0, 8);
        Check.commandDenied("42 move nowhere", CommandTest::denying, "move 0 3;move 0 4", 1, 8);
        Check.commandDenied("42 move to the same", CommandTest::denying, "move 0 3;move 0 3", 1, 4);
        Check.commandDenied("42 move, no room", CommandTest::denying, "move 0 1;age 3;move 2 1", 2, 1);
        Check.commandDenied("42 drop none", CommandTest::denying, "drop 0;drop 1;drop 2;drop 3", 3, 8);
        TurnipPages x = denying();
        Check.answer(x, y -> y.dry(1));
        Make.execute(x, "age 1;age 0");
        Check.equal("42 the rot is back", x.rotOf(0, 0), 0);
        Check.equal("42 the buffer is empty", x.feed('a'), 1);
        Check.answer(x, y -> y.dry(1));
        Check.equal("42 no cause behind a later denial", Look.latestDenial(x), "4 0 throws NoSuchElementException");
    }

    private static TurnipPages damaged(char first) {
        TurnipPages x = denying();
        x.damage(0, 0, first);
        return x;
    }

    /** Telegram 3 is in root 1 with telegram 1, with one page of eight, and would have two. */
    private static TurnipPages growing() {
        TurnipPages x = denying();
        Make.carveForged(x, 1, "8\\13\\18\\23\\2", "1".repeat(11) + "2".repeat(11));
        return x;
    }

    private static void promise43() {
        TurnipPages x = Make.roots(1);
        Check.noElement("43 none", Make::fresh, TurnipPages::faultPosition);
        Make.execute(x, "age 1");
        Check.noElement("43 none after all went well", () -> Make.roots(1), TurnipPages::faultPosition);
        Make.execute(x, "age x");
        Check.equal("43 of execute", x.faultPosition(), 4);
        Make.type(x, "abc2");
        Check.answer(x, TurnipPages::decode);
        Check.equal("43 of decode", x.faultPosition(), 3);
        Make.execute(x, "dry 9");
        Check.equal("43 a denial keeps it", x.faultPosition(), 3);
        Make.execute(x, "age 1");
        Check.equal("43 a success keeps it", x.faultPosition(), 3);
        x.undo();
        x.saveSnapshot();
        Make.execute(x, "");
        x.restoreSnapshot();
        Check.equal("43 undo and snapshots keep it", x.faultPosition(), 0);
    }

    private static void promise44() {
        TurnipPages x = Make.roots(3, 0, 4);
        Make.carve(x, 2, 5, "aaaab7 ended.");
        written(x, 0, "#0@2!5 [4ab\\7 ended.]0");
        x.age(3);
        written(x, 0, "#0@2!5 [4ab\\7 ended.]12");
        Make.carve(x, 0, 9, "thirteen of '");
        x.age(2);
        written(x, 0, "#0@2!5 [~~~~~~~~~~~~]20");
        written(x, 1, "#1@0!9 [thirteen of ]6 [']6");
        x.age(5);
        written(x, 1, "#1@0!9 [~~~~~~~~~~~~]20 [~]20");
        for (int i = 2; i < 12; i++) {
            Make.carve(x, 1, 0, "m");
            x.drop(i);
        }
        Make.carve(x, 1, 0, "0123456789".repeat(4));
        written(x, 12, "#12@1!0 [\\0\\1\\2\\3\\4\\5]0 [\\6\\7\\8\\9\\0\\1]0 [\\2\\3\\4\\5\\6\\7]0 [\\8\\9\\0\\1\\2\\3]0"
                + " [\\4\\5\\6\\7\\8\\9]0 [\\0\\1\\2\\3\\4\\5]0 [\\6\\7\\8\\9]0");
        TurnipPages damaged = Make.roots(1);
        Make.carve(damaged, 0, 0, "abc");
        Make.damage(damaged, 0, "1]~");
        written(damaged, 0, "#0@0!0 [1]~]0");
        for (int wrong : new int[] {-1, 1, 32, Integer.MIN_VALUE, Integer.MAX_VALUE}) {
            Check.noElement("44 telegram " + wrong, Make::used, y -> y.writeTelegram(wrong));
        }
        written(numberedHundred(), 100, "#100@0!1 [x]0");
    }

    private static TurnipPages numberedHundred() {
        TurnipPages x = Make.roots(0);
        for (int i = 0; i < 100; i++) {
            x.type('x');
            x.drop(x.carve(0, 1));
        }
        Make.carve(x, 0, 1, "x");
        return x;
    }

    private static void written(TurnipPages x, int telegram, String due) {
        Check.equal("44 length", x.writeTelegram(telegram), due.length());
        Check.equal("44 line", Look.line(x), due);
    }

    private static void promise45() {
        TurnipPages x = Make.roots(1);
        Check.noIndex("45 initially", Make::fresh, y -> y.lineCharacter(0));
        Make.type(x, "ab1");
        x.encode();
        Check.equal("45 characters", "" + x.lineCharacter(0) + x.lineCharacter(1) + x.lineCharacter(2) + x.lineCharacter(3),
                "ab\\1");
        for (int wrong : new int[] {-1, 4, 432, Integer.MIN_VALUE, Integer.MAX_VALUE}) {
            Check.equal("45 index " + wrong, Check.answer(x, y -> y.lineCharacter(wrong)), "throws IndexOutOfBoundsException");
        }
        for (int wrong : new int[] {-1, 1000, Integer.MIN_VALUE, Integer.MAX_VALUE}) {
            Check.noIndex("45 index " + wrong, Make::used, y -> y.lineCharacter(wrong));
        }
        x.clearMessage();
        Check.equal("45 stays", x.lineCharacter(3), '1');
    }
}
