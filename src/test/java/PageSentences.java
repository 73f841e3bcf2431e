/** Promises 32 to 40, sentence by sentence. */
final class PageSentences {
    private static final String NO_TELEGRAM = "Throws `NoSuchElementException` if there is no such telegram";

    private PageSentences() {
    }

    static void check() {
        promise32();
        promise32Rotten();
        promise33();
        promise34();
        promise35();
        promise36();
        promise37();
        promise38();
        promise39();
        promise40();
    }

    /** Root 0 of dampness 1 has two pages, root 1 of dampness 5 has one, and dry root 2 has three. */
    private static TurnipPages sixPages() {
        TurnipPages x = Make.roots(1, 5, 0);
        Make.carve(x, 0, 5, "thirteensigns");
        Make.carve(x, 1, 5, "one");
        Make.carve(x, 2, 5, "twenty-five signs it is..");
        return x;
    }

    private static void promise32() {
        Doc.section("Promise 32: age");
        Doc.says("Lets days pass.");
        TurnipPages x = sixPages();
        x.age(2);
        Check.equal("the day", x.day(), 2);
        Check.equal("the rot", x.rotOf(0, 0) + " " + x.rotOf(0, 1) + " " + x.rotOf(1, 0) + " " + x.rotOf(2, 2), "2 2 10 0");
        Check.equal("a change", x.undoCount(), 7);
        Doc.says("- `days`: the number of days, 1 to 20");
        for (int days = 1; days <= 20; days++) {
            TurnipPages y = Make.aged(sixPages(), days);
            Check.equal(days + " days", y.day() + " " + y.rotOf(0, 0) + " " + y.rotOf(1, 0),
                    days + " " + days + " " + Math.min(20, days * 5));
        }
        Doc.says("Throws `IllegalArgumentException` if the number of days is out of range");
        for (int wrong : new int[] {0, -1, 21, 22, 99, Integer.MIN_VALUE, Integer.MAX_VALUE}) {
            Check.badArgument("" + wrong, Make::used, y -> y.age(wrong));
        }
    }

    private static void promise32Rotten() {
        Doc.says("Returns the number of pages that become rotten in these days.");
        Check.answers("none there", Make::fresh, 0, x -> x.age(20));
        Check.answers("3 days", PageSentences::sixPages, 0, x -> x.age(3));
        Check.answers("4 days", PageSentences::sixPages, 1, x -> x.age(4));
        Check.answers("19 days", PageSentences::sixPages, 1, x -> x.age(19));
        Check.answers("20 days", PageSentences::sixPages, 3, x -> x.age(20));
        Check.answers("only those of these days", () -> Make.aged(sixPages(), 4), 2, x -> x.age(16));
        Check.answers("one day less", () -> Make.aged(sixPages(), 4), 0, x -> x.age(15));
        Check.answers("no undone ones", () -> Make.undone(Make.filled(3), 2), 1, x -> x.age(20));
        Check.answers("all rotten that can be", () -> Make.aged(sixPages(), 20), 0, x -> x.age(20));
    }

    private static void promise33() {
        Doc.section("Promise 33: pageCount");
        Doc.says("Returns the number of pages of a telegram.");
        Check.answers("2", PageSentences::sixPages, 2, x -> x.pageCount(0));
        Check.answers("1", PageSentences::sixPages, 1, x -> x.pageCount(1));
        Check.answers("3", PageSentences::sixPages, 3, x -> x.pageCount(2));
        Check.answers("rotten", () -> Make.aged(sixPages(), 20), 2, x -> x.pageCount(0));
        Doc.says("Returns the number of pages.");
        Check.answers("12 characters", () -> Make.carved(Make.roots(0), 0, "twelve signs"), 1, x -> x.pageCount(0));
        Check.answers("13 characters", () -> Make.carved(Make.roots(0), 0, "thirteensigns"), 2, x -> x.pageCount(0));
        Check.answers("80 characters", () -> Make.carved(Make.roots(0), 0, "0123456789".repeat(4)), 7, x -> x.pageCount(0));
        Needs.telegram(NO_TELEGRAM, TurnipPages::pageCount);
    }

    private static void promise34() {
        Doc.section("Promise 34: rotOf");
        Doc.says("Returns the rot of a page.");
        Check.answers("initially", PageSentences::sixPages, 0, x -> x.rotOf(0, 0));
        Check.answers("the first", () -> Make.aged(sixPages(), 7), 7, x -> x.rotOf(0, 0));
        Check.answers("the last", () -> Make.aged(sixPages(), 7), 7, x -> x.rotOf(0, 1));
        Doc.says("Returns the rot.");
        Check.answers("19", () -> Make.aged(sixPages(), 19), 19, x -> x.rotOf(0, 0));
        Check.answers("20", () -> Make.aged(sixPages(), 20), 20, x -> x.rotOf(0, 0));
        Check.answers("20 from 25", () -> Make.aged(sixPages(), 5), 20, x -> x.rotOf(1, 0));
        Check.answers("dry", () -> Make.aged(sixPages(), 20), 0, x -> x.rotOf(2, 2));
        Needs.telegram(NO_TELEGRAM, (x, telegram) -> x.rotOf(telegram, 0));
        Doc.says("Throws `IndexOutOfBoundsException` if it has no such page");
        for (int wrong : new int[] {-1, 2, 3, 7, 8, Integer.MIN_VALUE, Integer.MAX_VALUE}) {
            Check.noIndex(wrong + " of 2", PageSentences::sixPages, x -> x.rotOf(0, wrong));
        }
        Check.noIndex("1 of 1", PageSentences::sixPages, x -> x.rotOf(1, 1));
        Check.answers("6 of 7", () -> Make.carved(Make.roots(0), 0, "0123456789".repeat(4)), 0, x -> x.rotOf(0, 6));
        Check.noIndex("7 of 7", () -> Make.carved(Make.roots(0), 0, "0123456789".repeat(4)), x -> x.rotOf(0, 7));
    }

    private static void promise35() {
        Doc.section("Promise 35: daysUntilRotten");
        Doc.says("Returns the number of days after which a telegram has a rotten page, if only days pass.");
        int[] due = {20, 10, 7, 5, 4};
        for (int dampness = 1; dampness <= 5; dampness++) {
            for (int passed = 0; passed <= due[dampness - 1]; passed++) {
                TurnipPages x = Make.carved(Make.roots(dampness), 0, "thirteensigns");
                for (int day = 0; day < passed; day++) {
                    x.age(1);
                }
                int days = due[dampness - 1] - passed;
                Check.equal("dampness " + dampness + ", day " + passed, x.daysUntilRotten(0), days);
                Check.equal("is no change", x.rotOf(0, 0), Math.min(20, passed * dampness));
            }
        }
        Doc.says("Returns the number of days, 0 if it has one now.");
        Check.answers("now", () -> Make.damaged("abc", 4), 0, x -> x.daysUntilRotten(0));
        Check.answers("now, and longer", () -> Make.damaged("abc", 9), 0, x -> x.daysUntilRotten(0));
        Check.answers("tomorrow", () -> Make.damaged("abc", 3), 1, x -> x.daysUntilRotten(0));
        Check.answers("now, in a dry root", PageSentences::rottenAndDry, 0, x -> x.daysUntilRotten(0));
        Check.answers("unreadable, but not rotten", () -> Make.damaged("ab2", 0), 4, x -> x.daysUntilRotten(0));
        Needs.telegram("Throws `NoSuchElementException` if there is no such telegram, or it never has a rotten page",
                TurnipPages::daysUntilRotten);
        Check.noElement("dry", PageSentences::sixPages, x -> x.daysUntilRotten(2));
        Check.noElement("dry with rot 19", PageSentences::nearlyRottenAndDry, x -> x.daysUntilRotten(0));
    }

    private static TurnipPages rottenAndDry() {
        TurnipPages x = Make.aged(Make.carved(Make.roots(1), 0, "a"), 20);
        x.dry(0);
        return x;
    }

    private static TurnipPages nearlyRottenAndDry() {
        TurnipPages x = Make.aged(Make.carved(Make.roots(1), 0, "a"), 19);
        x.dry(0);
        return x;
    }

    private static void promise36() {
        Doc.section("Promise 36: rottenPages");
        Doc.says("Returns the number of rotten pages in all roots.");
        Check.answers("of one root", () -> Make.aged(sixPages(), 4), 1, TurnipPages::rottenPages);
        Check.answers("of two roots", () -> Make.aged(sixPages(), 20), 3, TurnipPages::rottenPages);
        Doc.says("Returns the number of pages.");
        Check.answers("no roots", Make::fresh, 0, TurnipPages::rottenPages);
        Check.answers("rot 19", () -> Make.aged(Make.carved(Make.roots(1), 0, "a"), 19), 0, TurnipPages::rottenPages);
        Check.answers("rot 20", () -> Make.aged(Make.carved(Make.roots(1), 0, "a"), 20), 1, TurnipPages::rottenPages);
        Check.answers("eight", () -> Make.aged(Make.filled(8), 20), 8, TurnipPages::rottenPages);
        Check.answers("dropped", () -> Make.dropped(Make.aged(Make.filled(8), 20), 0), 7, TurnipPages::rottenPages);
        Check.answers("undone", () -> Make.undone(Make.aged(Make.filled(8), 20), 1), 0, TurnipPages::rottenPages);
        Check.answers("restored", PageSentences::restored, 0, TurnipPages::rottenPages);
    }

    /** What was carved and became rotten behind the snapshot is gone. */
    private static TurnipPages restored() {
        TurnipPages x = Make.filled(1);
        x.saveSnapshot();
        Make.carve(x, 0, 0, "later");
        x.age(20);
        x.restoreSnapshot();
        return x;
    }

    private static void promise37() {
        Doc.section("Promise 37: day");
        Doc.says("Returns the number of days that have passed.");
        Check.answers("without telegrams", () -> Make.aged(Make.aged(Make.fresh(), 20), 1), 21, TurnipPages::day);
        Doc.says("Returns the number of days.");
        Check.answers("none", Make::fresh, 0, TurnipPages::day);
        Check.answers("1", () -> Make.days(1), 1, TurnipPages::day);
        Check.answers("refused days", () -> refusedDays(), 1, TurnipPages::day);
        Check.answers("undone", () -> Make.undone(Make.days(3), 1), 2, TurnipPages::day);
    }

    private static TurnipPages refusedDays() {
        TurnipPages x = Make.days(1);
        Check.answer(x, y -> y.age(21));
        Check.answer(x, y -> y.age(0));
        Make.execute(x, "age 3;age 21");
        return x;
    }

    private static void promise38() {
        Doc.section("Promise 38: carvedCharacters");
        Doc.says("Returns the number of characters of all texts carved so far, without those carved anew.");
        TurnipPages x = Make.carved(Make.carved(Make.roots(1), 0, "zzzzzzz"), 0, "11");
        Check.equal("of texts, not of codes", x.carvedCharacters(), 9);
        x.recarve(0);
        Make.execute(x, "recarve 1");
        Check.equal("not anew", x.carvedCharacters(), 9);
        x.drop(0);
        Check.equal("dropped ones count", x.carvedCharacters(), 9);
        Doc.says("Returns the number of characters.");
        Check.answers("none", Make::fresh, 0, TurnipPages::carvedCharacters);
        Check.answers("1", () -> Make.filled(1), 1, TurnipPages::carvedCharacters);
        Check.answers("40", () -> Make.carved(Make.roots(0), 0, "a".repeat(40)), 40, TurnipPages::carvedCharacters);
        Check.answers("undone", () -> Make.undone(Make.filled(3), 1), 2, TurnipPages::carvedCharacters);
        TurnipPages denied = Make.message(Make.filled(8), "abc");
        Check.answer(denied, y -> y.carve(0, 0));
        Check.equal("a denied one does not count", denied.carvedCharacters(), 8);
    }

    private static void promise39() {
        Doc.section("Promise 39: meanCodeLength");
        Doc.says("Returns the mean code length of the telegrams: the sum converted to double, divided by their number converted to"
                + " double.");
        Check.answers("2 and 13 and 1", () -> Make.carved(Make.carved(Needs.longRun(), 0, "thirteensigns"), 0, "b"),
                16.0 / 3.0, TurnipPages::meanCodeLength);
        Check.answers("13, 3 and 25", PageSentences::sixPages, 41.0 / 3.0, TurnipPages::meanCodeLength);
        Check.answers("halves", () -> Make.carved(Needs.longRun(), 0, "abc"), 2.5, TurnipPages::meanCodeLength);
        Doc.says("Returns the mean.");
        Check.answers("of one", () -> Make.filled(1), 1.0, TurnipPages::meanCodeLength);
        Check.answers("without an undone one", () -> Make.undone(Make.carved(Make.filled(1), 0, "abc"), 1), 1.0,
                TurnipPages::meanCodeLength);
        Check.answers("of 32", Needs::telegrams32, 1.0, TurnipPages::meanCodeLength);
        Doc.says("Throws `ArithmeticException` if there are no telegrams");
        Check.refused("new", Make::fresh, ArithmeticException.class, TurnipPages::meanCodeLength);
        Check.refused("roots", () -> Make.roots(1), ArithmeticException.class, TurnipPages::meanCodeLength);
        Check.refused("dropped", () -> Make.dropped(Make.filled(1), 0), ArithmeticException.class, TurnipPages::meanCodeLength);
        Check.refused("undone", () -> Make.undone(Make.filled(1), 1), ArithmeticException.class, TurnipPages::meanCodeLength);
    }

    private static void promise40() {
        Doc.section("Promise 40: rottenShare");
        Doc.says("Returns the share of rotten pages among all pages, both numbers converted to float.");
        Check.answers("1 of 6", () -> Make.aged(sixPages(), 4), 1.0f / 6.0f, TurnipPages::rottenShare);
        Check.answers("3 of 6", () -> Make.aged(sixPages(), 20), 0.5f, TurnipPages::rottenShare);
        Check.answers("1 of 3", () -> Make.dropped(Make.aged(sixPages(), 4), 2), 1.0f / 3.0f, TurnipPages::rottenShare);
        Doc.says("Returns the share.");
        Check.answers("none", PageSentences::sixPages, 0.0f, TurnipPages::rottenShare);
        Check.answers("all", () -> Make.aged(Make.filled(8), 20), 1.0f, TurnipPages::rottenShare);
        Check.answers("without undone ones", () -> Make.aged(Make.undone(Make.filled(3), 2), 20), 1.0f, TurnipPages::rottenShare);
        Doc.says("Throws `ArithmeticException` if there are no pages");
        Check.refused("new", Make::fresh, ArithmeticException.class, TurnipPages::rottenShare);
        Check.refused("roots", () -> Make.roots(1), ArithmeticException.class, TurnipPages::rottenShare);
        Check.refused("dropped", () -> Make.dropped(Make.filled(1), 0), ArithmeticException.class, TurnipPages::rottenShare);
        Check.refused("undone", () -> Make.undone(Make.filled(1), 1), ArithmeticException.class, TurnipPages::rottenShare);
    }
}
