import java.util.NoSuchElementException;

/** Counts what is as due and prints what is not. */
final class Check {
    interface Call {
        Object on(TurnipPages pages);
    }

    interface Maker {
        TurnipPages make();
    }

    static final String NO_ELEMENT = "throws NoSuchElementException";
    static final String NO_INDEX = "throws IndexOutOfBoundsException";
    static final String BAD_ARGUMENT = "throws IllegalArgumentException";
    static final String BAD_STATE = "throws IllegalStateException";
    static final String DENIED = "throws UnsupportedOperationException";
    static final String BAD_ARITHMETIC = "throws ArithmeticException";

    private static int passed = 0;
    private static int failed = 0;
    private static String sentence = "";

    private Check() {
    }

    /** The sentence of the document that the next checks are about. */
    static void under(String newSentence) {
        sentence = newSentence;
    }

    static void equal(String what, Object got, Object due) {
        if (due.equals(got)) {
            passed++;
            return;
        }
        failed++;
        String[] gotLines = String.valueOf(got).split("\n");
        String[] dueLines = due.toString().split("\n");
        int line = 0;
        while (line + 1 < Math.min(gotLines.length, dueLines.length) && gotLines[line].equals(dueLines[line])) {
            line++;
        }
        String where = sentence.isEmpty() ? what : sentence + " -- " + what;
        System.out.println(where + ": answered <" + gotLines[line] + ">, due is <" + dueLines[line] + ">");
    }

    /** The answer of a call, or the name of exactly the exception that it throws. */
    static Object answer(TurnipPages pages, Call call) {
        try {
            return call.on(pages);
        } catch (RuntimeException e) {
            return "throws " + e.getClass().getSimpleName();
        }
    }

    /** Each call on an object of its own. */
    static void answers(String what, Maker maker, Object due, Call call) {
        equal(what, answer(maker.make(), call), due);
    }

    /** The call throws, and its object then answers like a twin without the call. */
    static void refused(String what, Maker maker, Class<? extends RuntimeException> due, Call call) {
        TurnipPages tried = maker.make();
        TurnipPages twin = maker.make();
        equal(what, answer(tried, call), "throws " + due.getSimpleName());
        equal(what + " keeps the denial", Look.latestDenial(tried), Look.latestDenial(twin));
        equal(what + " keeps the fault position", Look.fault(tried), Look.fault(twin));
        equal(what + " keeps the state", Look.at(tried), Look.at(twin));
    }

    static void noElement(String what, Maker maker, Call call) {
        refused(what, maker, NoSuchElementException.class, call);
    }

    static void noIndex(String what, Maker maker, Call call) {
        refused(what, maker, IndexOutOfBoundsException.class, call);
    }

    static void badArgument(String what, Maker maker, Call call) {
        refused(what, maker, IllegalArgumentException.class, call);
    }

    static void badState(String what, Maker maker, Call call) {
        refused(what, maker, IllegalStateException.class, call);
    }

    /** The call is denied, and its object then answers like a twin without the call, but for the denial. */
    static void denied(String what, Maker maker, int number, int detail, Call call) {
        TurnipPages tried = maker.make();
        TurnipPages twin = maker.make();
        equal(what, answer(tried, call), "throws UnsupportedOperationException");
        equal(what + " notes the denial", Look.latestDenial(tried), number + " " + detail + " throws NoSuchElementException");
        equal(what + " keeps the fault position", Look.fault(tried), Look.fault(twin));
        equal(what + " keeps the state", Look.at(tried), Look.at(twin));
    }

    /** The commands are denied by the one at the index, and leave nothing but the denial. */
    static void commandDenied(String what, Maker maker, String commands, int index, int cause) {
        TurnipPages tried = maker.make();
        TurnipPages twin = maker.make();
        Make.feed(tried, commands);
        equal(what, answer(tried, TurnipPages::execute), "throws UnsupportedOperationException");
        equal(what + " notes the denial", Look.latestDenial(tried), "7 " + index + " " + cause);
        equal(what + " keeps the fault position", Look.fault(tried), Look.fault(twin));
        equal(what + " keeps the state", Look.at(tried), Look.at(twin));
    }

    /** The commands do not match the grammar, and leave nothing but the fault position. */
    static void commandFault(Maker maker, String commands, int position) {
        TurnipPages tried = maker.make();
        TurnipPages twin = maker.make();
        Make.feed(tried, commands);
        String what = "execute \"" + commands + "\"";
        equal(what, answer(tried, TurnipPages::execute), "throws IllegalArgumentException");
        equal(what + " keeps its fault position", answer(tried, TurnipPages::faultPosition), position);
        equal(what + " keeps the denial", Look.latestDenial(tried), Look.latestDenial(twin));
        equal(what + " keeps the state", Look.at(tried), Look.at(twin));
    }

    static void end(String test) {
        System.out.println(test + ": " + passed + " as due, " + failed + " not");
        System.exit(failed == 0 ? 0 : 1);
    }
}
