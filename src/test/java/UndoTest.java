/** Promises 49 to 52: undo and snapshots. */
public final class UndoTest {
    public static void main(String[] args) {
        promise49EachChange();
        promise49();
        promise49Eight();
        promise49NextNumber();
        promise49NothingStays();
        promise50();
        promise51();
        promise52();
        whatIsNotAffected();
        Check.end("UndoTest");
    }

    /** Undoing a change leaves an object like its twin without the change. */
    private static void undone(String what, Check.Call change) {
        TurnipPages tried = Make.used();
        TurnipPages twin = Make.used();
        tried.age(1);
        twin.age(1);
        change.on(tried);
        Check.equal("49 changes after " + what, tried.undoCount(), twin.undoCount() + 1);
        Check.equal("49 undo " + what, Check.answer(tried, TurnipPages::undo), twin.undoCount());
        tried.clearMessage();
        twin.clearMessage();
        Check.equal("49 state after undo " + what, Look.at(tried), Look.at(twin));
    }

    private static void promise49EachChange() {
        undone("addRoot", x -> x.addRoot(3));
        undone("dry", x -> x.dry(0));
        undone("carve", x -> x.carve(1, 9));
        undone("damage", x -> x.damage(0, 0, '8'));
        undone("recarve", x -> x.recarve(0));
        undone("move", x -> x.move(0, 2));
        undone("drop", x -> x.drop(0));
        undone("age", x -> x.age(20));
        TurnipPages x = Make.used();
        Make.feed(x, ";age 2;move 0 2;age 1;dry 2;drop 0;root 5");
        Check.equal("49 commands", x.execute(), 7);
        Check.equal("49 undo of all commands", x.undo(), 5);
        x.writeTelegram(0);
        Check.equal("49 the telegram is back", Look.line(x), "#0@0!4 [4a\\7\\7b]2");
        Check.equal("49 the rest too", x.dampness(0) + " " + x.dampness(2) + " " + x.rootCount() + " " + x.day(), "2 5 3 1");
    }

    private static void promise49() {
        Check.badState("49 none", Make::fresh, TurnipPages::undo);
        TurnipPages x = Make.roots(1, 2);
        Check.equal("49 one is left", x.undo(), 1);
        Check.equal("49 roots", x.rootCount(), 1);
        Check.equal("49 none is left", x.undo(), 0);
        Check.equal("49 no roots", x.rootCount(), 0);
        Check.equal("49 none more", Check.answer(x, TurnipPages::undo), "throws IllegalStateException");
        Make.execute(x, "root 1;root 2;root 9");
        Check.equal("49 denied commands are no change", x.undoCount(), 0);
        Check.answer(x, y -> y.addRoot(6));
        Check.equal("49 a refusal is no change", x.undoCount(), 0);
    }

    private static void promise49Eight() {
        TurnipPages x = new TurnipPages();
        for (int i = 1; i <= 20; i++) {
            x.age(i);
            Check.equal("50 at most eight", x.undoCount(), Math.min(i, 8));
        }
        int day = 210;
        for (int i = 20; i > 12; i--) {
            Check.equal("49 eight", x.undo(), i - 13);
            day -= i;
            Check.equal("49 day", x.day(), day);
        }
        Check.equal("49 older ones are forgotten", Check.answer(x, TurnipPages::undo), "throws IllegalStateException");
        x.age(5);
        Check.equal("49 a new one", x.undoCount(), 1);
        x.undo();
        Check.equal("49 undone", x.day(), day);
        TurnipPages full = eightChanges();
        Check.answer(full, y -> y.age(0));
        Make.execute(full, "age 1;age 0");
        Check.answer(full, y -> y.drop(5));
        for (int i = 7; i >= 0; i--) {
            Check.equal("49 a refusal forgets nothing", full.undo() + " " + full.day(), i + " " + i);
        }
    }

    private static TurnipPages eightChanges() {
        TurnipPages x = new TurnipPages();
        for (int i = 0; i < 8; i++) {
            x.age(1);
        }
        return x;
    }

    private static void promise49NextNumber() {
        TurnipPages x = Make.roots(1);
        Make.carve(x, 0, 0, "a");
        x.undo();
        Check.equal("49 the number is free again", Make.carve(x, 0, 0, "b"), 0);
        x.drop(0);
        x.undo();
        Check.equal("49 dropped and back", Look.code(x, 0), "b");
        Check.equal("49 the next number", Make.carve(x, 0, 0, "c"), 1);
        x.undo();
        Check.equal("49 the message does not come back", x.clearMessage(), 0);
    }

    /** A telegram that was undone counts nowhere. */
    private static void promise49NothingStays() {
        TurnipPages x = Make.roots(5, 5);
        Make.carve(x, 0, 1, "a");
        Make.carve(x, 0, 9, "thirteensigns");
        x.age(4);
        x.undo();
        x.undo();
        Check.equal("49 pages", x.pagesIn(0), 1);
        Check.equal("49 share", x.rottenShare(), 0.0f);
        Check.equal("49 mean", x.meanCodeLength(), 1.0);
        Check.equal("49 by priority", x.telegramByPriority(0), 0);
        Check.equal("49 by rot", x.telegramByRot(0), 0);
        Check.equal("49 no second", Check.answer(x, y -> y.telegramByRot(1)), "throws NoSuchElementException");
        Check.equal("49 not there", Check.answer(x, y -> y.rootOf(1)), "throws NoSuchElementException");
        Check.equal("49 becomes rotten", x.age(4), 1);
        Check.equal("49 rotten", x.rottenPages(), 1);
        Check.equal("49 all are rotten", x.rottenShare(), 1.0f);
        TurnipPages restored = Make.roots(5, 0);
        Make.carve(restored, 1, 0, "a");
        restored.saveSnapshot();
        Make.carve(restored, 0, 9, "b");
        restored.age(4);
        restored.restoreSnapshot();
        Check.equal("52 none is rotten", restored.rottenPages(), 0);
        Check.equal("52 by rot", restored.telegramByRot(0), 0);
        Check.equal("52 by priority", restored.telegramByPriority(0), 0);
    }

    private static void promise50() {
        TurnipPages x = new TurnipPages();
        Check.equal("50 none", x.undoCount(), 0);
        x.addRoot(1);
        Make.carve(x, 0, 0, "a");
        Check.equal("50 two", x.undoCount(), 2);
        x.undo();
        Check.equal("50 one", x.undoCount(), 1);
        x.read(Make.carve(x, 0, 0, "b"));
        x.encode();
        x.saveSnapshot();
        Check.equal("50 only changes count", x.undoCount(), 2);
    }

    private static void promise51() {
        TurnipPages x = new TurnipPages();
        Check.equal("51 none", x.saveSnapshot(), 0);
        x.addRoot(2);
        Make.carve(x, 0, 0, "a");
        Make.carve(x, 0, 0, "b");
        Check.equal("51 two", x.saveSnapshot(), 2);
        Check.equal("51 is no change", x.undoCount(), 3);
        x.drop(0);
        x.age(1);
        Check.equal("51 the later one holds", x.restoreSnapshot(), 2);
        Check.equal("51 its day", x.day(), 0);
        x.drop(0);
        x.drop(1);
        Check.equal("51 none again", x.saveSnapshot(), 0);
        x.undo();
        Check.equal("51 undo goes on", x.telegramCount(), 1);
        Check.equal("51 undo leaves the snapshot", x.restoreSnapshot(), 0);
    }

    private static void promise52() {
        Check.badState("52 none", Make::fresh, TurnipPages::restoreSnapshot);
        TurnipPages x = Make.roots(2, 0);
        Make.carve(x, 0, 6, "thirteensigns");
        x.age(3);
        x.saveSnapshot();
        String before = everything(x);
        x.addRoot(5);
        x.damage(0, 0, 'T');
        x.move(0, 1);
        x.age(7);
        Make.carve(x, 2, 0, "more");
        Check.equal("52 back", x.restoreSnapshot(), 1);
        Check.equal("52 everything", everything(x), before);
        Check.equal("52 no undo", x.undoCount(), 0);
        Check.equal("52 none to undo", Check.answer(x, TurnipPages::undo), "throws IllegalStateException");
        x.recarve(0);
        x.dry(0);
        Make.carve(x, 0, 0, "more");
        x.drop(0);
        Check.equal("52 changes go on", x.undoCount(), 4);
        Check.equal("52 it is kept", x.restoreSnapshot(), 1);
        Check.equal("52 everything again", everything(x), before);
        Check.equal("52 the next number", Make.carve(x, 0, 0, "n"), 1);
        x.undo();
        Check.equal("52 undo up to it", everything(x), before);
    }

    private static String everything(TurnipPages x) {
        StringBuilder out = new StringBuilder();
        for (int root = 0; root < x.rootCount(); root++) {
            out.append(x.dampness(root)).append(' ').append(x.pagesIn(root)).append(' ');
        }
        for (int i = 0; i < x.telegramCount(); i++) {
            x.writeTelegram(x.telegramAt(i));
            out.append(Look.line(x)).append(' ');
        }
        return out.append(x.day()).append(' ').append(x.carvedCharacters()).toString();
    }

    /** The message, the buffer, the fault position, the line and the denial. */
    private static void whatIsNotAffected() {
        TurnipPages x = Make.roots(1, 1);
        x.saveSnapshot();
        x.age(1);
        Check.answer(x, y -> y.carve(0, 0));
        Make.execute(x, "age");
        Make.type(x, "abb");
        x.encode();
        Make.feed(x, "age 7");
        x.undo();
        remains(x, "undo");
        Check.equal("49 the buffer remains", x.execute() + " " + x.day(), "1 7");
        Make.feed(x, "age 8");
        x.restoreSnapshot();
        remains(x, "restoreSnapshot");
        Check.equal("52 the buffer remains", x.execute() + " " + x.day(), "1 8");
    }

    private static void remains(TurnipPages x, String what) {
        Check.equal("line after " + what, Look.line(x), "abb");
        Check.equal("message after " + what, x.messageChecksum() + " " + x.encodedLength(), Make.sum("abb") + " 3");
        Check.equal("fault after " + what, Look.fault(x), "3");
        Check.equal("denial after " + what, Look.latestDenial(x), "2 0 throws NoSuchElementException");
    }
}
