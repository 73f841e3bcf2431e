/** Promises 9 to 14, sentence by sentence. */
final class RootSentences {
    private RootSentences() {
    }

    static void check() {
        promise9();
        promise10();
        promise11();
        promise12();
        promise13();
        promise14();
    }

    private static void promise9() {
        Doc.section("Promise 9: addRoot");
        Doc.says("Adds a root.");
        TurnipPages x = Make.roots(4);
        x.addRoot(2);
        Check.equal("one more", x.rootCount() + " " + x.dampness(0) + " " + x.dampness(1) + " " + x.pagesIn(1), "2 4 2 0");
        Doc.says("- `dampness`: the dampness, 0 to 5");
        for (int dampness = 0; dampness <= 5; dampness++) {
            Check.equal("" + dampness, Make.roots(dampness).dampness(0), dampness);
        }
        Doc.says("Returns the index of the root.");
        TurnipPages four = new TurnipPages();
        for (int root = 0; root < 4; root++) {
            Check.equal("" + root, four.addRoot(5 - root), root);
        }
        Doc.says("Throws `IllegalArgumentException` if the dampness is out of range");
        for (int wrong : new int[] {-1, 6, 7, Integer.MIN_VALUE, Integer.MAX_VALUE}) {
            Check.badArgument("" + wrong, Make::used, y -> y.addRoot(wrong));
        }
        Doc.says("Throws `UnsupportedOperationException` if denied: 1 (4 roots)");
        Check.denied("4 roots", () -> Make.roots(0, 1, 2, 3), 1, 4, y -> y.addRoot(5));
        Check.denied("4 roots, dampness 0", () -> Make.roots(0, 1, 2, 3), 1, 4, y -> y.addRoot(0));
        Check.answers("3 roots", () -> Make.roots(0, 1, 2), 3, y -> y.addRoot(5));
        Check.answers("one of 4 undone", () -> Make.undone(Make.roots(0, 1, 2, 3), 1), 3, y -> y.addRoot(5));
    }

    private static void promise10() {
        Doc.section("Promise 10: dry");
        Doc.says("Decreases the dampness of a root by 1.");
        for (int dampness = 1; dampness <= 5; dampness++) {
            TurnipPages x = Make.roots(3, dampness, 3);
            x.dry(1);
            Check.equal("of one root", x.dampness(0) + " " + x.dampness(1) + " " + x.dampness(2), "3 " + (dampness - 1) + " 3");
        }
        Doc.says("Returns the dampness afterwards.");
        TurnipPages x = Make.roots(5);
        for (int left = 4; left >= 0; left--) {
            Check.equal("" + left, x.dry(0), left);
        }
        Needs.root(Needs::telegrams, TurnipPages::dry);
        Check.noIndex("no roots", Make::fresh, y -> y.dry(0));
        Doc.says("Throws `UnsupportedOperationException` if denied: 4 (the dampness is 0)");
        Check.denied("0 from the start", () -> Make.roots(0), 4, 0, y -> y.dry(0));
        Check.denied("0 after drying", RootSentences::dried, 4, 0, y -> y.dry(1));
        Check.answers("1", () -> Make.roots(1), 0, y -> y.dry(0));
    }

    private static TurnipPages dried() {
        TurnipPages x = Make.roots(2, 1);
        x.dry(1);
        return x;
    }

    private static void promise11() {
        Doc.section("Promise 11: rootCount");
        Doc.says("Returns the number of roots.");
        Check.answers("0", Make::fresh, 0, TurnipPages::rootCount);
        Check.answers("1", () -> Make.roots(5), 1, TurnipPages::rootCount);
        Check.answers("3", () -> Make.roots(5, 5, 5), 3, TurnipPages::rootCount);
        Check.answers("4", () -> Make.roots(5, 5, 5, 5), 4, TurnipPages::rootCount);
        Check.answers("one undone", () -> Make.undone(Make.roots(5, 5), 1), 1, TurnipPages::rootCount);
    }

    private static void promise12() {
        Doc.section("Promise 12: dampness");
        Doc.says("Returns the dampness of a root.");
        TurnipPages x = Make.roots(0, 5, 1, 4);
        int[] due = {0, 5, 1, 4};
        for (int root = 0; root < 4; root++) {
            Check.equal("root " + root, x.dampness(root), due[root]);
        }
        Doc.says("Returns the dampness.");
        Check.answers("0", () -> Make.roots(0), 0, y -> y.dampness(0));
        Check.answers("5", () -> Make.roots(5), 5, y -> y.dampness(0));
        Check.answers("dried", RootSentences::dried, 0, y -> y.dampness(1));
        Needs.root(Needs::telegrams, TurnipPages::dampness);
        Check.noIndex("no roots", Make::fresh, y -> y.dampness(0));
    }

    private static void promise13() {
        Doc.section("Promise 13: pagesIn");
        Doc.says("Returns the number of pages in a root.");
        TurnipPages x = Make.roots(1, 1);
        Make.carve(x, 0, 0, "twelve signs");
        Make.carve(x, 0, 0, "thirteensigns");
        Make.carve(x, 1, 0, "twenty-five signs it is..");
        Check.equal("1 and 2, and 3", x.pagesIn(0) + " " + x.pagesIn(1), "3 3");
        x.move(1, 1);
        Check.equal("moved", x.pagesIn(0) + " " + x.pagesIn(1), "1 5");
        x.drop(2);
        Check.equal("dropped", x.pagesIn(0) + " " + x.pagesIn(1), "1 2");
        x.age(20);
        Check.equal("rotten ones, too", x.pagesIn(0) + " " + x.pagesIn(1), "1 2");
        Doc.says("Returns the number of pages, 0 to 8.");
        for (int pages = 0; pages <= 8; pages++) {
            int due = pages;
            Check.answers("" + pages, () -> Make.filled(due), due, y -> y.pagesIn(0));
        }
        TurnipPages full = Make.message(Make.filled(8), "a");
        Check.answer(full, y -> y.carve(0, 0));
        Check.equal("never 9", full.pagesIn(0), 8);
        Check.equal("of the other root", full.pagesIn(1), 0);
        Needs.root(Needs::telegrams, TurnipPages::pagesIn);
        Check.noIndex("no roots", Make::fresh, y -> y.pagesIn(0));
    }

    private static void promise14() {
        Doc.section("Promise 14: dampestRoot");
        Doc.says("Returns the dampest root; of several, the one with the smallest index.");
        Check.answers("the first of all", () -> Make.roots(3, 3, 3, 3), 0, TurnipPages::dampestRoot);
        Check.answers("the second and the fourth", () -> Make.roots(0, 5, 4, 5), 1, TurnipPages::dampestRoot);
        Check.answers("all dry", () -> Make.roots(0, 0), 0, TurnipPages::dampestRoot);
        Check.answers("dried", RootSentences::dried, 0, TurnipPages::dampestRoot);
        Doc.says("Returns the index of the root.");
        Check.answers("0", () -> Make.roots(1, 0), 0, TurnipPages::dampestRoot);
        Check.answers("3", () -> Make.roots(0, 1, 2, 3), 3, TurnipPages::dampestRoot);
        Doc.says("Throws `NoSuchElementException` if there are no roots");
        Check.noElement("new", Make::fresh, TurnipPages::dampestRoot);
        Check.noElement("undone", () -> Make.undoneAll(Make.roots(1, 2)), TurnipPages::dampestRoot);
        Check.answers("one of dampness 0", () -> Make.roots(0), 0, TurnipPages::dampestRoot);
    }
}
