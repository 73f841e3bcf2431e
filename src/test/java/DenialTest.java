/** Promises 46 to 48: the latest denial. */
public final class DenialTest {
    private static final String NONE = "throws NoSuchElementException";

    public static void main(String[] args) {
        Check.noElement("46 nothing was denied", Make::fresh, TurnipPages::denial);
        Check.noElement("47 nothing was denied", Make::fresh, TurnipPages::denialDetail);
        Check.noElement("48 nothing was denied", Make::fresh, TurnipPages::denialCause);
        eachDenial();
        whatKeepsIt();
        Check.end("DenialTest");
    }

    private static void eachDenial() {
        TurnipPages x = Make.roots(0, 5, 1, 1);
        latest(x, "none yet", NONE + " " + NONE + " " + NONE);
        Check.answer(x, y -> y.carve(0, 0));
        latest(x, "message", "2 0 " + NONE);
        Make.carve(x, 1, 0, "abcd");
        Check.answer(x, y -> y.carve(0, 0));
        latest(x, "message and a telegram", "2 1 " + NONE);
        Check.answer(x, y -> y.addRoot(0));
        latest(x, "roots", "1 4 " + NONE);
        Check.answer(x, y -> y.dry(0));
        latest(x, "dry", "4 0 " + NONE);
        Check.answer(x, y -> y.move(0, 1));
        latest(x, "root", "4 1 " + NONE);
        Check.answer(x, y -> y.damage(0, 3, 'd'));
        latest(x, "character", "4 100 " + NONE);
        Make.execute(x, "age 1;dry 2;dry 2");
        latest(x, "command", "7 2 4");
        Check.equal("48 a cause", x.denialCause(), 4);
        Make.execute(x, "drop 1");
        latest(x, "command without a denial", "7 0 8");
        x.damage(0, 3, '5');
        Check.answer(x, y -> y.read(0));
        latest(x, "code", "5 4 " + NONE);
        x.damage(0, 3, 'e');
        Check.answer(x, y -> y.recarve(0));
        latest(x, "checksums", "6 " + Make.sum("abce") + " " + NONE);
        x.age(4);
        Check.answer(x, y -> y.read(0));
        latest(x, "rotten", "3 0 " + NONE);
        Make.execute(x, "age 1;recarve 0");
        latest(x, "command of a rotten page", "7 1 3");
    }

    private static void latest(TurnipPages x, String what, String due) {
        Check.equal("46 to 48 " + what, Look.latestDenial(x), due);
    }

    private static void whatKeepsIt() {
        TurnipPages x = Make.roots(1);
        Make.carve(x, 0, 0, "a");
        Make.execute(x, "dry 0;dry 0");
        x.saveSnapshot();
        x.dry(0);
        x.undo();
        x.restoreSnapshot();
        x.read(0);
        x.isReadable(0);
        Make.execute(x, "dry 7;");
        Check.answer(x, y -> y.dry(7));
        Check.answer(x, y -> y.drop(7));
        Check.answer(x, y -> y.age(0));
        Check.answer(x, TurnipPages::undo);
        latest(x, "kept until the next", "7 1 4");
        x.age(20);
        Check.equal("46 unreadable", x.isReadable(0), false);
        latest(x, "isReadable denies nothing", "7 1 4");
    }
}
