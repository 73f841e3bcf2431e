import java.util.regex.Matcher;
import java.util.regex.Pattern;

/** The paragraph "Commands" of "Terms" and promises 41 to 45, sentence by sentence. */
final class CommandSentences {
    private static final String COMMAND =
            "(root [0-9]|dry [0-9]|age [0-9]{1,2}|recarve [0-9]{1,2}|move [0-9]{1,2} [0-9]|drop [0-9]{1,2})";
    private static final Pattern COMMANDS = Pattern.compile(COMMAND + "(;" + COMMAND + ")*");
    /** 60 characters. */
    private static final String FULL = "age 1;".repeat(9) + "age 12";
    private static final String EXAMPLE = "#3@1!5 [4ab\\7 ended.]12 [~~~]20";

    private CommandSentences() {
    }

    static void check() {
        buffer();
        grammar();
        correspondence();
        faults();
        promise41();
        promise42();
        promise42Refusals();
        promise43();
        promise44();
        promise44Rotten();
        promise45();
    }

    /** The number of commands, or the fault position. */
    private static String executed(Check.Maker maker, String commands) {
        TurnipPages x = maker.make();
        Object answer = Make.execute(x, commands);
        return answer.equals(Check.BAD_ARGUMENT) ? "fault " + x.faultPosition() : answer.toString();
    }

    private static void matches(String commands, int count) {
        Check.equal(commands, executed(CommandSentences::allCommandsGoWell, commands), "" + count);
    }

    private static void differs(String commands, int position) {
        Check.equal(commands, executed(CommandSentences::allCommandsGoWell, commands), "fault " + position);
    }

    /** Roots of dampness 3, 3 and 3, and telegrams 0 to 12, of which 0, 9, 10 and 12 are there. */
    private static TurnipPages allCommandsGoWell() {
        TurnipPages x = Make.roots(3, 3, 3);
        for (int i = 0; i < 13; i++) {
            Make.carve(x, i % 2, 5, "t");
            if (i > 0 && i < 9 || i == 11) {
                x.drop(i);
            }
        }
        return x;
    }

    private static void buffer() {
        Doc.section("Commands");
        Doc.says("The command buffer holds at most 60 characters.");
        TurnipPages x = new TurnipPages();
        Make.feed(x, FULL.substring(0, 58));
        Check.equal("the 59th", x.feed('1'), 59);
        Check.equal("the 60th", x.feed('2'), 60);
        Check.equal("the 61st", Check.answer(x, y -> y.feed('3')), Check.BAD_STATE);
        Check.equal("all 60 count", x.execute() + " " + x.day(), "10 21");
        Check.equal("60 characters", FULL.length(), 60);
        Check.equal("59", executed(Make::fresh, FULL.substring(0, 59)), "10");
        Check.equal("60", executed(Make::fresh, FULL), "10");
        Check.equal("60 that end too early", executed(Make::fresh, "age 1;".repeat(10)), "fault 60");
        Check.equal("60 of which the last is wrong", executed(Make::fresh, FULL.substring(0, 59) + "x"), "fault 59");
    }

    private static void grammar() {
        Doc.says("Its contents match this grammar, with terminals in double quotes; a space in a terminal is exactly one space:");
        matches("dry 1", 1);
        differs("dry1", 3);
        differs("dry  1", 4);
        differs(" dry 1", 0);
        differs("dry 1 ", 5);
        differs("dry\t1", 3);
        differs("move 0  2", 7);
        differs("move 02", 7);
        differs("DRY 1", 0);
        Doc.says("commands: command { \";\" command }");
        differs("", 0);
        matches("age 1", 1);
        matches("age 1;age 1", 2);
        matches(FULL, 10);
        differs(";", 0);
        differs(";age 1", 0);
        differs("age 1;", 6);
        differs("age 1;;age 1", 6);
        differs("age 1; age 1", 6);
        differs("age 1 ;age 1", 5);
        differs("age 1,age 1", 5);
        Doc.says("command: \"root \" digit | \"dry \" digit | \"age \" number | \"recarve \" number | \"move \" number \" \" digit"
                + " | \"drop \" number");
        oneDigit("root ", "0");
        oneDigit("dry ", "2");
        oneDigit("move 0 ", "1");
        Doc.says("number: one or two digits");
        oneOrTwoDigits("age ", "1", "01", "20", "");
        oneOrTwoDigits("recarve ", "0", "00", "12", "");
        oneOrTwoDigits("move ", "9", "09", "10", " 2");
        oneOrTwoDigits("drop ", "9", "09", "10", "");
    }

    private static void oneDigit(String start, String digit) {
        differs(start, start.length());
        matches(start + digit, 1);
        differs(start + digit + "0", start.length() + 1);
        differs(start + "/", start.length());
        differs(start + ":", start.length());
        differs(start + "-1", start.length());
        differs(start + (char) 0x661, start.length());
    }

    private static void oneOrTwoDigits(String start, String one, String withZero, String two, String end) {
        differs(start + end, start.length());
        matches(start + one + end, 1);
        matches(start + withZero + end, 1);
        matches(start + two + end, 1);
        differs(start + "0" + two + end, start.length() + 2);
        differs(start + "/" + end, start.length());
        differs(start + "0:" + end, start.length() + 1);
        differs(start + "+1" + end, start.length());
    }

    private static void correspondence() {
        Doc.says("The commands correspond to the methods addRoot, dry, age, recarve, move and drop, with the parameters in the same"
                + " order.");
        alike("root 4", x -> x.addRoot(4));
        alike("dry 1", x -> x.dry(1));
        alike("age 4", x -> x.age(4));
        alike("age 20", x -> x.age(20));
        alike("recarve 9", x -> x.recarve(9));
        alike("recarve 12", x -> x.recarve(12));
        alike("move 0 2", x -> x.move(0, 2));
        alike("move 10 1", x -> x.move(10, 1));
        alike("move 12 1", x -> x.move(12, 1));
        alike("drop 0", x -> x.drop(0));
        alike("drop 12", x -> x.drop(12));
    }

    private static void alike(String command, Check.Call call) {
        TurnipPages commanded = Make.aged(allCommandsGoWell(), 2);
        TurnipPages called = Make.aged(allCommandsGoWell(), 2);
        Check.equal(command, Make.execute(commanded, command), 1);
        call.on(called);
        Check.equal(command, Look.at(commanded), Look.at(called));
    }

    private static void faults() {
        Doc.says("The fault position of commands that do not match is the index of the first character that cannot continue any"
                + " such commands, or their length if they end too early.");
        differs("x", 0);
        differs("rx", 1);
        differs("roo ", 3);
        differs("recarvf", 6);
        differs("drx", 2);
        differs("dropp", 4);
        differs("age 1;xdry", 6);
        differs("r", 1);
        differs("move 12", 7);
        differs("age 1;dr", 8);
        Check.equal("0 and not a letter", executed(Make::fresh, "\u0000"), "fault 0");
        Check.equal("0 is not the end", executed(Make::fresh, "age 1\u0000"), "fault 5");
        String text = "root 1;dry 0;age 07;recarve 0;move 10 2;drop 9";
        for (int index = 0; index <= text.length(); index++) {
            againstPattern(text.substring(0, index));
            for (char sign : " ;0129adermopv\u0000\u00ff".toCharArray()) {
                againstPattern(text.substring(0, index) + sign + text.substring(Math.min(index + 1, text.length())));
                againstPattern(text.substring(0, index) + sign + text.substring(index));
            }
        }
    }

    private static void againstPattern(String commands) {
        int due = faultOf(commands);
        String got = executed(Make::fresh, commands);
        Check.equal(commands, got.startsWith("fault ") ? Integer.parseInt(got.substring(6)) : -1, due);
    }

    private static int faultOf(String commands) {
        for (int end = 1; end <= commands.length(); end++) {
            Matcher start = COMMANDS.matcher(commands.substring(0, end));
            if (!start.matches() && !start.hitEnd()) {
                return end - 1;
            }
        }
        return COMMANDS.matcher(commands).matches() ? -1 : commands.length();
    }

    private static void promise41() {
        Doc.section("Promise 41: feed");
        Doc.says("Appends a character to the command buffer.");
        Check.equal("in order", executed(Make::fresh, "root 3"), "1");
        Doc.says("- `character`: any character");
        TurnipPages x = new TurnipPages();
        char[] any = {0, 10, 31, 32, 126, 127, 255, 256, 0xd800, 65535};
        for (int i = 0; i < any.length; i++) {
            Check.equal("" + (int) any[i], x.feed(any[i]), i + 1);
        }
        Doc.says("Returns the length of the buffer afterwards.");
        TurnipPages y = new TurnipPages();
        for (int length = 1; length <= 60; length++) {
            Check.equal("" + length, y.feed('r'), length);
        }
        Doc.says("Throws `IllegalStateException` if the buffer has 60 characters");
        Check.answers("58", () -> fed(58), 59, z -> z.feed(' '));
        Check.answers("59", () -> fed(59), 60, z -> z.feed(' '));
        Check.badState("60", () -> fed(60), z -> z.feed(' '));
        Check.badState("60, any character", () -> fed(60), z -> z.feed((char) 0));
    }

    private static TurnipPages fed(int length) {
        TurnipPages x = Make.roots(1);
        Make.feed(x, FULL.substring(0, length));
        return x;
    }

    private static void promise42() {
        Doc.section("Promise 42: execute");
        Doc.says("Parses the command buffer and executes its commands in their order, either all of them or none.");
        TurnipPages x = Make.carved(Make.roots(5, 0), 0, "a");
        Check.equal("in their order", Make.execute(x, "age 1;move 0 1;age 1;dry 0;move 0 0;age 1;root 2"), 7);
        Check.equal("all", x.rotOf(0, 0) + " " + x.day() + " " + x.dampness(0) + " " + x.rootCount(), "9 3 4 3");
        Check.commandDenied("none by the last", CommandSentences::mixed, "age 1;move 0 1;recarve 1;root 4;dry 2;drop 0;dry 5", 6, 8);
        Check.commandDenied("none by the first", CommandSentences::mixed, "dry 1;age 1", 0, 4);
        Check.commandFault(CommandSentences::mixed, "age 1;drop 0;root 4;drop", 24);
        Doc.says("The buffer is empty afterwards, even if an exception is thrown.");
        Check.equal("after commands", emptied("age 1"), 1);
        Check.equal("after a denial", emptied("dry 9"), 1);
        Check.equal("after a fault", emptied("dry"), 1);
        Check.equal("after 60 characters", emptied(FULL), 1);
        Check.equal("after 60 characters and a fault", emptied("x".repeat(60)), 1);
        Doc.says("Returns the number of commands.");
        Check.equal("1", executed(Make::fresh, "root 1"), "1");
        Check.equal("2", executed(Make::fresh, "root 1;dry 0"), "2");
        Check.equal("10", executed(Make::fresh, FULL), "10");
    }

    /** Something for each command to change, and a change to undo, a snapshot, a denial and a fault position. */
    private static TurnipPages mixed() {
        TurnipPages x = Make.usedWithoutCommands();
        Make.carve(x, 2, 9, "thirteensigns");
        Make.type(x, "xy");
        x.writeTelegram(1);
        return x;
    }

    /** The length of the buffer when it is fed a character behind the commands. */
    private static int emptied(String commands) {
        TurnipPages x = new TurnipPages();
        Make.execute(x, commands);
        return x.feed('a');
    }

    private static void promise42Refusals() {
        Doc.says("Throws `IllegalArgumentException` if the buffer does not match the grammar; the fault position is kept");
        Check.commandFault(Make::usedWithoutCommands, "", 0);
        Check.commandFault(Make::usedWithoutCommands, "dry 0;dry", 9);
        Check.commandFault(Make::usedWithoutCommands, "dry 9;dry 9;", 12);
        Check.noElement("a match keeps none", () -> commanded("dry 0"), TurnipPages::faultPosition);
        Check.noElement("a denial keeps none", () -> commanded("dry 1"), TurnipPages::faultPosition);
        Doc.says("Throws `UnsupportedOperationException` if denied: 7");
        Check.commandDenied("the first", Make::usedWithoutCommands, "dry 1;dry 0", 0, 4);
        Check.commandDenied("the second", Make::usedWithoutCommands, "dry 0;dry 1", 1, 4);
        Check.commandDenied("not a denial itself", Make::usedWithoutCommands, "dry 0;dry 3", 1, 8);
        Check.commandDenied("the earlier of two", Make::usedWithoutCommands, "dry 3;dry 1", 0, 8);
        Check.equal("a fault before a denial", executed(Make::fresh, "dry 0;x"), "fault 6");
        Check.commandDenied("the fifth", Make::fullBeside, "drop 0;move 8 0;move 8 1;root 0;move 8 9", 4, 8);
        Check.equal("room that a command makes", executed(Make::fullBeside, "drop 0;move 8 0"), "2");
        Check.equal("a root that a command adds", executed(Make::fullBeside, "root 0;move 0 2"), "2");
    }

    private static TurnipPages commanded(String commands) {
        TurnipPages x = Make.roots(1);
        Make.execute(x, commands);
        return x;
    }

    private static void promise43() {
        Doc.section("Promise 43: faultPosition");
        Doc.says("Returns the fault position that was kept last, by decode or by execute.");
        TurnipPages x = Make.message(Make.roots(1), "ab3");
        Check.answer(x, TurnipPages::decode);
        Check.equal("of decode", x.faultPosition(), 3);
        Make.execute(x, "dry");
        Check.equal("of execute, too", x.faultPosition(), 3);
        Make.execute(x, "ro");
        Check.equal("of execute", x.faultPosition(), 2);
        Check.answer(x, TurnipPages::decode);
        Check.equal("of decode again", x.faultPosition(), 3);
        Doc.says("Returns the fault position.");
        Make.execute(x, "");
        Check.equal("0", x.faultPosition(), 0);
        Make.execute(x, "age 1;".repeat(10));
        Check.equal("60", x.faultPosition(), 60);
        x.clearMessage();
        x.decode();
        Make.execute(x, "age 1");
        Make.execute(x, "dry 3");
        Check.equal("kept where nothing is wrong", x.faultPosition(), 60);
        Doc.says("Throws `NoSuchElementException` if none was kept yet");
        Check.noElement("new", Make::fresh, TurnipPages::faultPosition);
        Check.noElement("an invalid code of a telegram keeps none", CommandSentences::unreadable, TurnipPages::faultPosition);
    }

    private static TurnipPages unreadable() {
        TurnipPages x = Make.damaged("ab2", 0);
        Check.answer(x, y -> y.read(0));
        Check.answer(x, y -> y.recarve(0));
        Check.answer(x, y -> y.decodedLength(0));
        Check.answer(x, y -> y.decodedLengthByUnits(0));
        Make.execute(x, "recarve 0");
        return x;
    }

    private static void written(TurnipPages x, int telegram, String due) {
        Check.equal("its length", x.writeTelegram(telegram), due.length());
        Check.equal("the line", Look.line(x), due);
    }

    private static void promise44() {
        Doc.section("Promise 44: writeTelegram");
        Doc.says("Writes a telegram as the output line, which replaces the previous one: \"#\" and its number, \"@\" and its root,"
                + " \"!\" and its priority, and for each page a space, its characters between \"[\" and \"]\", and its rot; the"
                + " characters of a rotten page are replaced by \"~\".");
        TurnipPages x = Make.roots(1, 1, 1, 1);
        Make.carve(x, 0, 0, " ");
        Make.carve(x, 3, 9, "[]~#@!");
        written(x, 1, "#1@3!9 [[]~#@!]0");
        written(x, 0, "#0@0!0 [ ]0");
        x.age(9);
        written(x, 0, "#0@0!0 [ ]9");
        x.age(1);
        written(x, 0, "#0@0!0 [ ]10");
        x.damage(1, 0, '1');
        written(x, 1, "#1@3!9 [1]~#@!]10");
        for (int i = 2; i < 12; i++) {
            Make.carve(x, 1, 4, "abcdefghijkl1");
            written(x, i, "#" + i + "@1!4 [abcdefghijkl]0 [\\1]0");
            x.drop(i);
        }
        Make.carve(x, 2, 1, "0123456789".repeat(4));
        written(x, 12, "#12@2!1 [\\0\\1\\2\\3\\4\\5]0 [\\6\\7\\8\\9\\0\\1]0 [\\2\\3\\4\\5\\6\\7]0 [\\8\\9\\0\\1\\2\\3]0"
                + " [\\4\\5\\6\\7\\8\\9]0 [\\0\\1\\2\\3\\4\\5]0 [\\6\\7\\8\\9]0");
    }

    private static void promise44Rotten() {
        TurnipPages x = Make.roots(1);
        Make.carve(x, 0, 7, "abcdefghijklmno");
        x.age(19);
        written(x, 0, "#0@0!7 [abcdefghijkl]19 [mno]19");
        x.age(1);
        written(x, 0, "#0@0!7 [~~~~~~~~~~~~]20 [~~~]20");
        Doc.says("Example: \"#3@1!5 [4ab\\7 ended.]12 [~~~]20\".");
        TurnipPages third = Make.filled(3);
        Make.carve(third, 1, 5, "aaaab7 ended.xyz");
        third.age(12);
        written(third, 3, EXAMPLE.replace("[~~~]20", "[xyz]12"));
        third.age(8);
        written(third, 3, EXAMPLE.replace("[4ab\\7 ended.]12", "[~~~~~~~~~~~~]20"));
        Doc.says("Returns the length of the line.");
        Check.answers("the shortest", () -> Make.carved(Make.roots(0), 0, "a"), 11, x1 -> x1.writeTelegram(0));
        Check.answers("the longest of carve", () -> Make.carved(Make.roots(0), 0, "0123456789".repeat(4)), 6 + 7 * 4 + 80,
                x1 -> x1.writeTelegram(0));
        Needs.telegram("Throws `NoSuchElementException` if there is no such telegram", TurnipPages::writeTelegram);
    }

    private static void promise45() {
        Doc.section("Promise 45: lineCharacter");
        Doc.says("Returns a character of the output line, which is initially empty.");
        Check.noIndex("initially", Make::fresh, x -> x.lineCharacter(0));
        TurnipPages x = Make.message(Make.fresh(), "a1");
        x.encode();
        Doc.says("- `index`: the index, from 0");
        Check.equal("0", x.lineCharacter(0), 'a');
        Check.equal("the last", x.lineCharacter(2), '1');
        Doc.says("Returns the character.");
        Check.equal("1", x.lineCharacter(1), '\\');
        Doc.says("Throws `IndexOutOfBoundsException` if there is no such index");
        for (int wrong : new int[] {-1, 3, 4, 432, Integer.MIN_VALUE, Integer.MAX_VALUE}) {
            Check.noIndex("" + wrong, CommandSentences::lineOfThree, y -> y.lineCharacter(wrong));
        }
        Check.answers("2 of 3", CommandSentences::lineOfThree, '1', y -> y.lineCharacter(2));
        Check.noIndex("empty again", CommandSentences::lineOfNone, y -> y.lineCharacter(0));
    }

    private static TurnipPages lineOfThree() {
        TurnipPages x = Make.message(Make.fresh(), "a1");
        x.encode();
        return x;
    }

    private static TurnipPages lineOfNone() {
        TurnipPages x = lineOfThree();
        x.clearMessage();
        x.encode();
        return x;
    }
}
