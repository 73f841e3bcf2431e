/** Promises 32 to 40: pages, days and statistics. */
public final class PageTest {
    private static final int[] WRONG_NUMBERS = {-1, 1, 2, 32, Integer.MIN_VALUE, Integer.MAX_VALUE};

    public static void main(String[] args) {
        promise32();
        promise33();
        promise34();
        promise35();
        promise36();
        promise37();
        promise38();
        promise39();
        promise40();
        Check.end("PageTest");
    }

    /** A telegram in each of the roots of dampness 0 to 3: with one, two, three and four pages. */
    private static TurnipPages fourRoots() {
        TurnipPages x = Make.roots(0, 1, 2, 3);
        Make.carve(x, 0, 0, "a");
        Make.carve(x, 1, 0, "thirteensigns");
        Make.carve(x, 2, 0, "twenty-five signs it is..");
        Make.carve(x, 3, 0, "these are the thirty-seven signs here");
        return x;
    }

    private static void promise32() {
        TurnipPages x = fourRoots();
        Check.equal("32 none yet", x.age(6), 0);
        Check.equal("32 rots", x.rotOf(0, 0) + " " + x.rotOf(1, 1) + " " + x.rotOf(2, 2) + " " + x.rotOf(3, 3), "0 6 12 18");
        Check.equal("32 four", x.age(1), 4);
        Check.equal("32 not above 20", x.rotOf(3, 0), 20);
        Check.equal("32 three", x.age(3), 3);
        Check.equal("32 nearly", x.age(9), 0);
        Check.equal("32 two", x.age(1), 2);
        Check.equal("32 all are", x.age(20), 0);
        Check.equal("32 still 20", x.rotOf(1, 0), 20);
        Check.equal("32 days", x.day(), 40);
        Check.equal("32 changes", x.undoCount(), 8);
        Check.equal("32 at once", fourRoots().age(20), 9);
        Check.equal("32 nothing there", Make.fresh().age(1), 0);
        Check.equal("32 the dampest", rotOfDampest(), 5);
        for (int wrong : new int[] {0, -1, 21, Integer.MIN_VALUE, Integer.MAX_VALUE}) {
            Check.badArgument("32 days " + wrong, Make::used, y -> y.age(wrong));
        }
    }

    private static int rotOfDampest() {
        TurnipPages x = Make.roots(5);
        Make.carve(x, 0, 0, "a");
        x.age(1);
        return x.rotOf(0, 0);
    }

    private static void promise33() {
        TurnipPages x = fourRoots();
        for (int i = 0; i < 4; i++) {
            Check.equal("33 pages", x.pageCount(i), i + 1);
        }
        Make.carve(x, 0, 0, "twelve signs");
        Check.equal("33 a full page", x.pageCount(4), 1);
        Make.carve(x, 0, 0, "12345 7");
        Check.equal("33 pages of the code", x.pageCount(5), 2);
        for (int wrong : WRONG_NUMBERS) {
            Check.noElement("33 telegram " + wrong, Make::used, y -> y.pageCount(wrong));
        }
    }

    private static void promise34() {
        TurnipPages x = fourRoots();
        Check.equal("34 initially", x.rotOf(3, 3), 0);
        x.age(2);
        for (int page = 0; page < 4; page++) {
            Check.equal("34 rot", x.rotOf(3, page), 6);
        }
        Check.equal("34 none behind", Check.answer(x, y -> y.rotOf(3, 4)), "throws IndexOutOfBoundsException");
        for (int wrong : WRONG_NUMBERS) {
            Check.noElement("34 telegram " + wrong, Make::used, y -> y.rotOf(wrong, 0));
            Check.noElement("34 telegram and page " + wrong, Make::used, y -> y.rotOf(wrong, -1));
        }
        for (int wrong : new int[] {-1, 1, 8, Integer.MIN_VALUE, Integer.MAX_VALUE}) {
            Check.noIndex("34 page " + wrong, Make::used, y -> y.rotOf(0, wrong));
        }
    }

    private static void promise35() {
        TurnipPages x = fourRoots();
        Check.equal("35 never", Check.answer(x, y -> y.daysUntilRotten(0)), "throws NoSuchElementException");
        Check.equal("35 dampness 1", x.daysUntilRotten(1), 20);
        Check.equal("35 dampness 2", x.daysUntilRotten(2), 10);
        Check.equal("35 dampness 3", x.daysUntilRotten(3), 7);
        x.age(6);
        Check.equal("35 14 are missing", x.daysUntilRotten(1), 14);
        Check.equal("35 8 are missing", x.daysUntilRotten(2), 4);
        Check.equal("35 2 are missing", x.daysUntilRotten(3), 1);
        x.age(1);
        Check.equal("35 now", x.daysUntilRotten(3), 0);
        x.dry(3);
        x.dry(3);
        x.dry(3);
        Check.equal("35 now, though dry", x.daysUntilRotten(3), 0);
        x.dry(1);
        Check.equal("35 never, once dry", Check.answer(x, y -> y.daysUntilRotten(1)), "throws NoSuchElementException");
        Check.equal("35 is no change", x.undoCount(), 8);
        TurnipPages slow = Make.roots(1);
        Make.carve(slow, 0, 0, "a");
        slow.age(18);
        Check.equal("35 2 are missing, dampness 1", slow.daysUntilRotten(0), 2);
        slow.age(1);
        Check.equal("35 1 is missing", slow.daysUntilRotten(0), 1);
        slow.age(1);
        Check.equal("35 none is missing", slow.daysUntilRotten(0), 0);
        for (int wrong : WRONG_NUMBERS) {
            Check.noElement("35 telegram " + wrong, Make::used, y -> y.daysUntilRotten(wrong));
        }
        Check.noElement("35 dry", PageTest::fourRoots, y -> y.daysUntilRotten(0));
    }

    private static void promise36() {
        TurnipPages x = fourRoots();
        Check.equal("36 none", x.rottenPages(), 0);
        x.age(7);
        Check.equal("36 four", x.rottenPages(), 4);
        x.age(3);
        Check.equal("36 seven", x.rottenPages(), 7);
        x.drop(3);
        Check.equal("36 dropped", x.rottenPages(), 3);
        x.age(10);
        Check.equal("36 five", x.rottenPages(), 5);
        Check.equal("36 nothing there", Make.fresh().rottenPages(), 0);
    }

    private static void promise37() {
        TurnipPages x = new TurnipPages();
        Check.equal("37 first", x.day(), 0);
        x.age(1);
        Check.equal("37 one", x.day(), 1);
        x.age(20);
        Check.equal("37 twenty more", x.day(), 21);
        Check.equal("37 by a command", Make.execute(x, "age 07;age 3") + " " + x.day(), "2 31");
        Check.equal("37 not by a refusal", Check.answer(x, y -> y.age(21)) + " " + x.day(),
                "throws IllegalArgumentException 31");
    }

    private static void promise38() {
        TurnipPages x = Make.roots(1);
        Check.equal("38 none", x.carvedCharacters(), 0);
        Make.carve(x, 0, 0, "aaaaaaaaaa");
        Check.equal("38 of the text", x.carvedCharacters(), 10);
        Make.carve(x, 0, 0, "11");
        Check.equal("38 both", x.carvedCharacters(), 12);
        x.recarve(0);
        Check.equal("38 not anew", x.carvedCharacters(), 12);
        x.drop(0);
        Check.equal("38 dropped", x.carvedCharacters(), 12);
        x.undo();
        x.undo();
        x.undo();
        Check.equal("38 undone", x.carvedCharacters(), 10);
    }

    private static void promise39() {
        TurnipPages x = Make.roots(0, 1);
        Check.equal("39 none", Check.answer(x, TurnipPages::meanCodeLength), "throws ArithmeticException");
        Check.refused("39 fresh", Make::fresh, ArithmeticException.class, TurnipPages::meanCodeLength);
        Make.carve(x, 0, 0, "aaaa");
        Check.equal("39 one", x.meanCodeLength(), 2.0);
        Make.carve(x, 1, 0, "thirteensigns");
        Check.equal("39 two", x.meanCodeLength(), 7.5);
        Make.carve(x, 1, 0, "b");
        Check.equal("39 three", x.meanCodeLength(), 16.0 / 3.0);
        x.drop(0);
        x.drop(1);
        x.drop(2);
        Check.equal("39 dropped", Check.answer(x, TurnipPages::meanCodeLength), "throws ArithmeticException");
    }

    private static void promise40() {
        TurnipPages x = Make.roots(0, 1);
        Check.equal("40 no pages", Check.answer(x, TurnipPages::rottenShare), "throws ArithmeticException");
        Check.refused("40 fresh", Make::fresh, ArithmeticException.class, TurnipPages::rottenShare);
        Make.carve(x, 0, 0, "thirteensigns");
        Make.carve(x, 1, 0, "a");
        Check.equal("40 none is rotten", x.rottenShare(), 0.0f);
        x.age(20);
        Check.equal("40 a third", x.rottenShare(), 1.0f / 3.0f);
        x.drop(0);
        Check.equal("40 all", x.rottenShare(), 1.0f);
        x.drop(1);
        Check.equal("40 dropped", Check.answer(x, TurnipPages::rottenShare), "throws ArithmeticException");
    }
}
