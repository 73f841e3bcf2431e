/** The sentences about roots and telegrams that do not exist, which many promises share. */
final class Needs {
    private static final int[] FAR = {32, Integer.MIN_VALUE, Integer.MAX_VALUE};

    interface Numbered {
        Object on(TurnipPages pages, int number);
    }

    private Needs() {
    }

    /** Telegrams 0 and 2 exist; 1 was dropped, 3 was undone. */
    static TurnipPages telegrams() {
        TurnipPages x = Make.roots(2, 3, 5);
        Make.carve(x, 0, 4, "aaaa77b");
        Make.carve(x, 1, 9, "dropped");
        Make.carve(x, 2, 0, "thirteensigns");
        x.saveSnapshot();
        Make.carve(x, 0, 0, "undone");
        x.undo();
        Check.answer(x, y -> y.move(0, 0));
        Make.execute(x, "drop 1;age 1");
        Make.feed(x, "rot");
        Check.answer(x, TurnipPages::execute);
        Make.feed(x, "dry 0");
        Make.type(x, "xy");
        x.writeTelegram(2);
        return x;
    }

    /** Telegram 0 has seven characters of text, and two of code. */
    static TurnipPages longRun() {
        return Make.carved(Make.roots(1), 0, "zzzzzzz");
    }

    /** Eight telegrams, of a page each, in each of four dry roots. */
    static TurnipPages telegrams32() {
        TurnipPages x = Make.roots(0, 0, 0, 0);
        for (int i = 0; i < 32; i++) {
            Make.carve(x, i % 4, 3, "t");
        }
        return x;
    }

    /** The call needs a telegram, as the sentence says. */
    static void telegram(String sentence, Numbered call) {
        Doc.says(sentence);
        for (int there : new int[] {0, 2}) {
            Object answer = Check.answer(telegrams(), x -> call.on(x, there));
            Check.equal("telegram " + there, answer.equals(Check.NO_ELEMENT), false);
        }
        for (int gone : new int[] {-1, 1, 3}) {
            Check.noElement("telegram " + gone, Needs::telegrams, x -> call.on(x, gone));
        }
        for (int far : FAR) {
            Check.noElement("telegram " + far, Needs::telegrams, x -> call.on(x, far));
        }
        Check.noElement("none at all", Make::fresh, x -> call.on(x, 0));
        Check.noElement("none but roots", () -> Make.roots(1, 1), x -> call.on(x, 0));
    }

    /** The call needs a root, as the sentence says; of three, it can be called for the first and the last. */
    static void root(Check.Maker three, Numbered call) {
        Doc.says("Throws `IndexOutOfBoundsException` if there is no such root");
        for (int there : new int[] {0, 2}) {
            Object answer = Check.answer(three.make(), x -> call.on(x, there));
            Check.equal("root " + there, answer.equals(Check.NO_INDEX), false);
        }
        for (int gone : new int[] {-1, 3, 4}) {
            Check.noIndex("root " + gone, three, x -> call.on(x, gone));
        }
        for (int far : FAR) {
            Check.noIndex("root " + far, three, x -> call.on(x, far));
        }
        Check.equal("the fourth", Check.answer(four(three), x -> call.on(x, 3)).equals(Check.NO_INDEX), false);
        Check.noIndex("above the fourth", () -> four(three), x -> call.on(x, 4));
        Check.noIndex("an undone one", () -> undone(three), x -> call.on(x, 3));
    }

    private static TurnipPages four(Check.Maker three) {
        TurnipPages x = three.make();
        x.addRoot(1);
        return x;
    }

    private static TurnipPages undone(Check.Maker three) {
        TurnipPages x = four(three);
        x.undo();
        return x;
    }
}
