/** Makes objects in the states that the tests begin with. */
final class Make {
    private Make() {
    }

    static TurnipPages fresh() {
        return new TurnipPages();
    }

    /** A root for each dampness. */
    static TurnipPages roots(int... dampnesses) {
        TurnipPages x = new TurnipPages();
        for (int dampness : dampnesses) {
            x.addRoot(dampness);
        }
        return x;
    }

    /** Roots of dampness 2, 0 and 5, and telegram 0 in root 0, with something in every part of the state. */
    static TurnipPages used() {
        TurnipPages x = usedWithoutCommands();
        feed(x, "dry 0");
        return x;
    }

    static TurnipPages usedWithoutCommands() {
        TurnipPages x = roots(2, 0, 5);
        carve(x, 0, 4, "aaaa77b");
        x.saveSnapshot();
        x.age(1);
        Check.answer(x, y -> y.move(0, 0));
        feed(x, "rot");
        Check.answer(x, TurnipPages::execute);
        type(x, "xy");
        x.writeTelegram(0);
        return x;
    }

    static void type(TurnipPages x, String text) {
        for (int i = 0; i < text.length(); i++) {
            x.type(text.charAt(i));
        }
    }

    static void feed(TurnipPages x, String commands) {
        for (int i = 0; i < commands.length(); i++) {
            x.feed(commands.charAt(i));
        }
    }

    static Object execute(TurnipPages x, String commands) {
        feed(x, commands);
        return Check.answer(x, TurnipPages::execute);
    }

    static int carve(TurnipPages x, int root, int priority, String text) {
        x.clearMessage();
        type(x, text);
        return x.carve(root, priority);
    }

    /** Damages what differs. */
    static void damage(TurnipPages x, int telegram, String code) {
        for (int i = 0; i < code.length(); i++) {
            if (x.codeCharacter(telegram, i) != code.charAt(i)) {
                x.damage(telegram, i, code.charAt(i));
            }
        }
    }

    static int sum(String text) {
        int sum = 0;
        for (int i = 0; i < text.length(); i++) {
            sum += text.charAt(i) * (i + 1);
        }
        return sum % 97;
    }

    /** A text without runs and escapes, of a length from 3, with the checksum of another. */
    static String textOfSum(int length, int sum) {
        for (char first = '<'; first < '['; first++) {
            for (char last = '_'; last <= '~'; last++) {
                StringBuilder text = new StringBuilder().append(first);
                for (int i = 1; i < length - 1; i++) {
                    text.append(i % 2 == 0 ? '!' : '?');
                }
                text.append(last);
                if (sum(text.toString()) == sum) {
                    return text.toString();
                }
            }
        }
        throw new IllegalStateException("no such text");
    }

    /** Carves a telegram whose code is then damaged into another one, with the checksum of its text. */
    static int carveForged(TurnipPages x, int root, String code, String text) {
        int number = carve(x, root, 5, textOfSum(code.length(), sum(text)));
        damage(x, number, code);
        return number;
    }
}
