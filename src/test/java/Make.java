/** Makes objects in the states that the tests begin with. */
final class Make {
    private Make() {
    }

    static TurnipPages fresh() {
        return new TurnipPages();
    }

    /** A root for each dampness. */
    static TurnipPages roots(int... dampnesses) {
        TurnipPages x = new TurnipPages();
        for (int dampness : dampnesses) {
            x.addRoot(dampness);
        }
        return x;
    }

    /** Roots of dampness 2, 0 and 5, and telegram 0 in root 0, with something in every part of the state. */
    static TurnipPages used() {
        TurnipPages x = usedWithoutCommands();
        feed(x, "dry 0");
        return x;
    }

    static TurnipPages usedWithoutCommands() {
        TurnipPages x = roots(2, 0, 5);
        carve(x, 0, 4, "aaaa77b");
        x.saveSnapshot();
        x.age(1);
        Check.answer(x, y -> y.move(0, 0));
        feed(x, "rot");
        Check.answer(x, TurnipPages::execute);
        type(x, "xy");
        x.writeTelegram(0);
        return x;
    }

    static void type(TurnipPages x, String text) {
        for (int i = 0; i < text.length(); i++) {
            x.type(text.charAt(i));
        }
    }

    static TurnipPages message(TurnipPages x, String text) {
        type(x, text);
        return x;
    }

    /** Two roots, and abc as the message. */
    static TurnipPages ready() {
        return message(roots(1, 2), "abc");
    }

    /** Root 0 of two has so many pages. */
    static TurnipPages filled(int pages) {
        TurnipPages x = roots(1, 1);
        for (int i = 0; i < pages; i++) {
            carve(x, 0, 0, "f");
        }
        return x;
    }

    /** Telegram 0 was abc, has this code of three characters, and so many days in a root of dampness 5. */
    static TurnipPages damaged(String code, int days) {
        TurnipPages x = roots(5);
        carve(x, 0, 1, "abc");
        damage(x, 0, code);
        for (int day = 0; day < days; day++) {
            x.age(1);
        }
        return x;
    }

    /** Telegram 0 has the code aaaa, which would be 4a. */
    static TurnipPages longWay() {
        return forged("aaaa", "aaaa");
    }

    static TurnipPages carved(TurnipPages x, int root, String text) {
        carve(x, root, 5, text);
        return x;
    }

    /** The text is carved, and its code then damaged into another one. */
    static TurnipPages carvedAs(TurnipPages x, String text, String code) {
        damage(x, carve(x, 0, 5, text), code);
        return x;
    }

    /** Telegram 0 has this code, and the checksum of its text. */
    static TurnipPages forged(String code, String text) {
        TurnipPages x = roots(0);
        carveForged(x, 0, code, text);
        return x;
    }

    static TurnipPages moved(TurnipPages x, int telegram, int root) {
        x.move(telegram, root);
        return x;
    }

    static TurnipPages damagedCode(TurnipPages x, int index, char character) {
        x.damage(0, index, character);
        return x;
    }

    static TurnipPages dropped(TurnipPages x, int telegram) {
        x.drop(telegram);
        return x;
    }

    static TurnipPages aged(TurnipPages x, int days) {
        x.age(days);
        return x;
    }

    /** Root 0 has so many pages; telegram 0 has one of them, and would have two if it were carved anew. */
    static TurnipPages growing(int pages) {
        TurnipPages x = roots(1);
        carveForged(x, 0, "8\\13\\18\\23\\2", "1".repeat(11) + "2".repeat(11));
        for (int page = 1; page < pages; page++) {
            carve(x, 0, 5, "g");
        }
        return x;
    }

    /** Root 0 has eight pages, and telegram 8 is the only one of root 1. */
    static TurnipPages fullBeside() {
        return carved(filled(8), 1, "a");
    }

    /** So many changes, of a day each. */
    static TurnipPages days(int days) {
        TurnipPages x = new TurnipPages();
        for (int day = 0; day < days; day++) {
            x.age(1);
        }
        return x;
    }

    static TurnipPages undone(TurnipPages x, int changes) {
        for (int i = 0; i < changes; i++) {
            x.undo();
        }
        return x;
    }

    static TurnipPages undoneAll(TurnipPages x) {
        return undone(x, x.undoCount());
    }

    static void feed(TurnipPages x, String commands) {
        for (int i = 0; i < commands.length(); i++) {
            x.feed(commands.charAt(i));
        }
    }

    static Object execute(TurnipPages x, String commands) {
        feed(x, commands);
        return Check.answer(x, TurnipPages::execute);
    }

    static int carve(TurnipPages x, int root, int priority, String text) {
        x.clearMessage();
        type(x, text);
        return x.carve(root, priority);
    }

    /** Damages what differs. */
    static void damage(TurnipPages x, int telegram, String code) {
        for (int i = 0; i < code.length(); i++) {
            if (x.codeCharacter(telegram, i) != code.charAt(i)) {
                x.damage(telegram, i, code.charAt(i));
            }
        }
    }

    static int sum(String text) {
        int sum = 0;
        for (int i = 0; i < text.length(); i++) {
            sum += text.charAt(i) * (i + 1);
        }
        return sum % 97;
    }

    /** A text without runs and escapes, of a length from 3, with the checksum of another. */
    static String textOfSum(int length, int sum) {
        for (char first = '<'; first < '['; first++) {
            for (char last = '_'; last <= '~'; last++) {
                StringBuilder text = new StringBuilder().append(first);
                for (int i = 1; i < length - 1; i++) {
                    text.append(i % 2 == 0 ? '!' : '?');
                }
                text.append(last);
                if (sum(text.toString()) == sum) {
                    return text.toString();
                }
            }
        }
        throw new IllegalStateException("no such text");
    }

    /** Carves a telegram whose code is then damaged into another one, with the checksum of its text. */
    static int carveForged(TurnipPages x, int root, String code, String text) {
        int number = carve(x, root, 5, textOfSum(code.length(), sum(text)));
        damage(x, number, code);
        return number;
    }
}
