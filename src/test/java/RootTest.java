/** Promises 9 to 14: roots. */
public final class RootTest {
    public static void main(String[] args) {
        promise9();
        promise10();
        promise11And12();
        promise13();
        promise14();
        Check.end("RootTest");
    }

    private static void promise9() {
        TurnipPages x = new TurnipPages();
        Check.equal("9 first", x.addRoot(0), 0);
        Check.equal("9 second", x.addRoot(5), 1);
        Check.equal("9 third", x.addRoot(3), 2);
        Check.equal("9 fourth", x.addRoot(3), 3);
        Check.equal("9 lowest", x.dampness(0), 0);
        Check.equal("9 highest", x.dampness(1), 5);
        Check.equal("9 a change each", x.undoCount(), 4);
        for (int wrong : new int[] {-1, 6, Integer.MIN_VALUE, Integer.MAX_VALUE}) {
            Check.badArgument("9 dampness " + wrong, Make::used, y -> y.addRoot(wrong));
            Check.badArgument("9 the fifth, dampness " + wrong, RootTest::fullRoots, y -> y.addRoot(wrong));
        }
        Check.denied("9 the fifth", RootTest::fullRoots, 1, 4, y -> y.addRoot(0));
    }

    private static TurnipPages fullRoots() {
        return Make.roots(1, 2, 3, 4);
    }

    private static void promise10() {
        TurnipPages x = Make.roots(2, 5);
        Check.equal("10 to 1", x.dry(0), 1);
        Check.equal("10 to 0", x.dry(0), 0);
        Check.equal("10 other root", x.dampness(1), 5);
        Check.equal("10 a change each", x.undoCount(), 4);
        Check.denied("10 dry already", () -> Make.roots(3, 0), 4, 0, y -> y.dry(1));
        for (int wrong : new int[] {-1, 3, 4, Integer.MIN_VALUE, Integer.MAX_VALUE}) {
            Check.noIndex("10 root " + wrong, Make::used, y -> y.dry(wrong));
        }
        Check.noIndex("10 no roots", Make::fresh, y -> y.dry(0));
        TurnipPages drier = Make.roots(5);
        Make.carve(drier, 0, 0, "a");
        drier.dry(0);
        drier.age(1);
        Check.equal("10 rot follows", drier.rotOf(0, 0), 4);
    }

    private static void promise11And12() {
        TurnipPages x = new TurnipPages();
        Check.equal("11 none", x.rootCount(), 0);
        for (int i = 1; i <= 4; i++) {
            x.addRoot(i);
            Check.equal("11 roots", x.rootCount(), i);
            Check.equal("12 dampness", x.dampness(i - 1), i);
        }
        for (int wrong : new int[] {-1, 3, Integer.MIN_VALUE, Integer.MAX_VALUE}) {
            Check.noIndex("12 root " + wrong, Make::used, y -> y.dampness(wrong));
        }
        Check.noIndex("12 no roots", Make::fresh, y -> y.dampness(0));
        Check.noIndex("12 behind four", RootTest::fullRoots, y -> y.dampness(4));
    }

    private static void promise13() {
        TurnipPages x = Make.roots(1, 1);
        Check.equal("13 none", x.pagesIn(0), 0);
        Make.carve(x, 0, 0, "a");
        Check.equal("13 one", x.pagesIn(0), 1);
        Make.carve(x, 0, 0, "abcdefghijklm");
        Check.equal("13 one and two", x.pagesIn(0), 3);
        Make.carve(x, 1, 0, "abcdefghijkl");
        Check.equal("13 a full page", x.pagesIn(1), 1);
        x.move(1, 1);
        Check.equal("13 moved from", x.pagesIn(0), 1);
        Check.equal("13 moved to", x.pagesIn(1), 3);
        x.drop(2);
        Check.equal("13 dropped", x.pagesIn(1), 2);
        for (int wrong : new int[] {-1, 3, Integer.MIN_VALUE, Integer.MAX_VALUE}) {
            Check.noIndex("13 root " + wrong, Make::used, y -> y.pagesIn(wrong));
        }
        Check.noIndex("13 no roots", Make::fresh, y -> y.pagesIn(0));
        TurnipPages full = Make.roots(0);
        for (int i = 0; i < 8; i++) {
            Make.carve(full, 0, 0, "a");
        }
        Check.equal("13 eight", full.pagesIn(0), 8);
    }

    private static void promise14() {
        Check.noElement("14 no roots", Make::fresh, TurnipPages::dampestRoot);
        Check.equal("14 one", Make.roots(0).dampestRoot(), 0);
        Check.equal("14 first", Make.roots(5, 4, 3).dampestRoot(), 0);
        Check.equal("14 last", Make.roots(1, 2, 3, 4).dampestRoot(), 3);
        Check.equal("14 of several", Make.roots(1, 4, 2, 4).dampestRoot(), 1);
        TurnipPages x = Make.roots(3, 3);
        x.dry(0);
        Check.equal("14 after drying", x.dampestRoot(), 1);
    }
}
