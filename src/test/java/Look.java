/** Looks at the state of an object through its face; the object is spent afterwards. */
final class Look {
    private Look() {
    }

    static String latestDenial(TurnipPages x) {
        return Check.answer(x, TurnipPages::denial) + " " + Check.answer(x, TurnipPages::denialDetail) + " "
                + Check.answer(x, TurnipPages::denialCause);
    }

    static String fault(TurnipPages x) {
        return Check.answer(x, TurnipPages::faultPosition).toString();
    }

    static String line(TurnipPages x) {
        StringBuilder out = new StringBuilder();
        for (int i = 0; i < 1000; i++) {
            try {
                out.append(x.lineCharacter(i));
            } catch (IndexOutOfBoundsException e) {
                return out.toString();
            }
        }
        return out.toString();
    }

    static String code(TurnipPages x, int telegram) {
        StringBuilder out = new StringBuilder();
        for (int i = 0; i < x.codeLength(telegram); i++) {
            out.append(x.codeCharacter(telegram, i));
        }
        return out.toString();
    }

    /** Everything but the latest denial and the fault position, and what undo and the snapshot bring back. */
    static String at(TurnipPages x) {
        StringBuilder out = new StringBuilder();
        out.append("line ").append(line(x)).append('\n');
        x.encode();
        out.append("message ").append(line(x)).append('\n');
        out.append("changes ").append(x.undoCount()).append(' ').append(store(x));
        lookAtBuffer(x, out);
        lookAtNextNumber(x, out);
        for (int i = 0; i < 9 && x.undoCount() > 0; i++) {
            out.append("undo ").append(x.undo()).append(": ");
            lookAtStore(x, out);
        }
        Object restored = Check.answer(x, TurnipPages::restoreSnapshot);
        out.append("snapshot ").append(restored).append(": ");
        lookAtStore(x, out);
        return out.toString();
    }

    /** All that changes can change, but for the next number; the line is spent. */
    static String store(TurnipPages x) {
        StringBuilder out = new StringBuilder();
        lookAtStore(x, out);
        for (int i = 0; i < x.telegramCount(); i++) {
            int number = x.telegramAt(i);
            x.writeTelegram(number);
            out.append(line(x)).append(" sum ").append(x.checksumOf(number)).append('\n');
        }
        return out.toString();
    }

    private static void lookAtStore(TurnipPages x, StringBuilder out) {
        out.append("day ").append(x.day()).append(" carved ").append(x.carvedCharacters());
        out.append(" roots");
        for (int root = 0; root < x.rootCount(); root++) {
            out.append(' ').append(x.dampness(root));
        }
        out.append(" telegrams");
        for (int i = 0; i < x.telegramCount(); i++) {
            int number = x.telegramAt(i);
            out.append(' ').append(number).append('@').append(x.rootOf(number));
            out.append('+').append(x.rotOf(number, 0));
        }
        out.append('\n');
    }

    /** Eight changes leave no room for a ninth that is undone again. */
    private static void lookAtNextNumber(TurnipPages x, StringBuilder out) {
        x.clearMessage();
        x.type('n');
        Object next = "";
        for (int root = 0; root < x.rootCount() && x.undoCount() < 8 && !(next instanceof Integer); root++) {
            int tried = root;
            next = Check.answer(x, y -> y.carve(tried, 0));
        }
        if (next instanceof Integer) {
            x.undo();
        }
        out.append("next number ").append(next).append('\n');
    }

    private static void lookAtBuffer(TurnipPages x, StringBuilder out) {
        out.append("buffer ").append(Check.answer(x, y -> y.feed(';')));
        out.append(' ').append(Check.answer(x, TurnipPages::execute));
        out.append(' ').append(fault(x)).append('\n');
    }
}
