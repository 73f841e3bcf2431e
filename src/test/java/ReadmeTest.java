import java.io.IOException;
import java.lang.reflect.InvocationTargetException;
import java.lang.reflect.Method;
import java.lang.reflect.Modifier;
import java.nio.file.Files;
import java.nio.file.Path;
import java.util.ArrayList;
import java.util.List;
import java.util.Map;
import java.util.TreeMap;
import java.util.function.IntPredicate;
import java.util.function.IntUnaryOperator;
import java.util.regex.Matcher;
import java.util.regex.Pattern;
import java.util.stream.Collectors;
import java.util.stream.IntStream;
import java.util.stream.Stream;

/** README.md (its path is the first argument, the document's the second) says what the class answers. */
public final class ReadmeTest {
    private static final String MAKING = "TurnipPages pages = new TurnipPages();";
    private static final Pattern CALL = Pattern.compile("pages\\.(\\w+)\\((.*)\\); +// ('.'|[^,]+)(, .+)?");
    private static final Pattern ROW = Pattern.compile("\\| `(\\w+ \\w+\\(.*?\\))` \\| .+? \\| (.*)\\|");
    private static final Map<String, Method> METHODS = new TreeMap<>();

    public static void main(String[] args) throws IOException {
        for (Method method : TurnipPages.class.getDeclaredMethods()) {
            if (Modifier.isPublic(method.getModifiers())) {
                METHODS.put(method.getName(), method);
            }
        }
        String page = Files.readString(Path.of(args[0]));
        example(part(page, "## An example"));
        calls(part(page, "## The calls"), Files.readString(Path.of(args[1])));
        limits(part(page, "### Limits"));
        tests(part(page, "## Tests"), Path.of(args[0]).resolveSibling("src/test/java"));
        Check.end("ReadmeTest");
    }

    /** What stands between a heading and the next one of its rank or above. */
    private static String part(String page, String heading) {
        Matcher found = Pattern.compile("(?s)\n" + heading + "\n.*?(?=\n#{1," + heading.indexOf(' ') + "} |$)").matcher(page);
        boolean there = found.find();
        Check.equal("README.md has " + heading, there, true);
        return there ? found.group() : "";
    }

    private static void example(String text) {
        String[] lines = text.substring(text.indexOf("```java\n") + 8, text.lastIndexOf("\n```")).split("\n");
        Check.equal("the example makes an object", lines[0], MAKING);
        Check.equal("the example has calls", lines.length > 10, true);
        TurnipPages pages = new TurnipPages();
        for (int i = 1; i < lines.length; i++) {
            Matcher call = CALL.matcher(lines[i]);
            if (call.matches()) {
                Check.equal("the example's " + lines[i], answer(pages, call.group(1), call.group(2)), call.group(3));
            } else {
                Check.equal("a call and its answer", lines[i], MAKING);
            }
        }
    }

    /** The answer as the example writes it. */
    private static String answer(TurnipPages pages, String name, String arguments) {
        try {
            Object answer = METHODS.get(name).invoke(pages, values(arguments));
            return answer instanceof Character ? "'" + answer + "'" : answer.toString();
        } catch (InvocationTargetException e) {
            return "throws " + e.getCause().getClass().getSimpleName();
        } catch (IllegalAccessException e) {
            throw new AssertionError(e);
        }
    }

    private static Object[] values(String arguments) {
        List<Object> values = new ArrayList<>();
        Matcher each = Pattern.compile("'(.)'|(-?\\d+)").matcher(arguments);
        while (each.find()) {
            values.add(each.group(1) == null ? (Object) Integer.parseInt(each.group(2)) : (Object) each.group(1).charAt(0));
        }
        return values.toArray();
    }

    /** Each call has a row, with what it throws in the document's order. */
    private static void calls(String text, String document) {
        Matcher rows = ROW.matcher(text);
        Map<String, String> told = new TreeMap<>();
        while (rows.find()) {
            told.put(rows.group(1), names(rows.group(2), "\\w+Exception") + denials(rows.group(2)));
        }
        Matcher promises = Pattern.compile("(?s)## Promise \\d+: \\w+\n\n`(\\w+ \\w+\\(.*?\\)).*?(?=\n## )").matcher(document);
        Map<String, String> due = new TreeMap<>();
        while (promises.find()) {
            String thrown = names(promises.group(), "(?<=Throws `)\\w+");
            due.put(promises.group(1), thrown + denials(promises.group()));
        }
        Check.equal("the document's calls", due.size(), METHODS.size());
        Check.equal("the calls and what they throw", lines(told), lines(due));
    }

    private static String lines(Map<String, String> map) {
        return map.entrySet().stream().map(Object::toString).collect(Collectors.joining("\n"));
    }

    private static String names(String text, String pattern) {
        return Pattern.compile(pattern).matcher(text).results().map(found -> found.group()).collect(Collectors.joining(" "));
    }

    private static String denials(String text) {
        Matcher found = Pattern.compile("if denied: ([^\n|]*)").matcher(text);
        return found.find() ? " " + found.group(1).replaceAll("\\(.*?\\)", "").replace(" ", "") : "";
    }

    private static void limits(String text) {
        Map<String, String> told = new TreeMap<>();
        Matcher rows = Pattern.compile("\\| (.+?) \\| (.+?) \\|").matcher(text);
        while (rows.find()) {
            told.put(rows.group(1), rows.group(2));
        }
        told.remove("what");
        Map<String, String> due = new TreeMap<>();
        due.put("characters of the message", "" + untilThrown(new TurnipPages(), x -> x.type('m')));
        due.put("characters that can be typed, and put by damage", "codes " + range(-1, 300, n -> goes(x -> x.type((char) n))));
        due.put("characters of the command buffer", "" + untilThrown(new TurnipPages(), x -> x.feed('b')));
        due.put("roots", "" + untilThrown(new TurnipPages(), x -> x.addRoot(0)));
        due.put("dampness of a root", range(-50, 50, n -> goes(x -> x.addRoot(n))));
        due.put("pages of a root", "" + untilThrown(Make.roots(0), x -> Make.carve(x, 0, 0, "p")));
        due.put("characters of a page", "" + lastWithAnswer(1, n -> Make.carved(Make.roots(0), 0, alternating(n)).pageCount(0)));
        due.put("characters of a run", "" + lastWithAnswer(2, n -> Make.message(Make.fresh(), "r".repeat(n)).encodedLength()));
        due.put("priority of a telegram", range(-50, 50, n -> goes(x -> x.addRoot(0) + x.type('p') + x.carve(0, n))));
        due.put("days of one call of age", range(-50, 50, n -> goes(x -> x.age(n))));
        due.put("rot of a page", range(-50, 50, ReadmeTest::isRot) + ", and 20 is rotten");
        due.put("checksum", range(-50, 200, ReadmeTest::isChecksum));
        due.put("changes that can be undone", "the latest " + Make.days(50).undoCount());
        due.put("snapshots", "one");
        due.put("calls of an object", "512");
        Check.equal("the limits", lines(told), lines(due));
    }

    private static boolean goes(Check.Call call) {
        return !Check.answer(new TurnipPages(), call).toString().startsWith("throws");
    }

    /** How often the call can be made. */
    private static int untilThrown(TurnipPages pages, Check.Call call) {
        int times = 0;
        while (times < 400 && !Check.answer(pages, call).toString().startsWith("throws")) {
            times++;
        }
        return times;
    }

    private static String range(int from, int to, IntPredicate right) {
        int[] all = IntStream.range(from, to).filter(right).toArray();
        boolean whole = all.length > 0 && all[all.length - 1] - all[0] == all.length - 1;
        return whole ? all[0] + " to " + all[all.length - 1] : "not a range";
    }

    private static int lastWithAnswer(int answer, IntUnaryOperator call) {
        return IntStream.range(1, 40).filter(n -> call.applyAsInt(n) == answer).max().orElse(-1);
    }

    private static String alternating(int length) {
        return "xy".repeat(length).substring(0, length);
    }

    private static boolean isRot(int rot) {
        TurnipPages pages = Make.carved(Make.roots(1), 0, "r");
        for (int day = 0; day < 40 && pages.rotOf(0, 0) != rot; day++) {
            pages.age(1);
        }
        return pages.rotOf(0, 0) == rot && pages.rottenPages() == (rot == 20 ? 1 : 0);
    }

    private static boolean isChecksum(int sum) {
        return IntStream.range(32, 127).anyMatch(last -> Make.message(Make.fresh(), "" + (char) last).messageChecksum() == sum
                || Make.message(Make.fresh(), "a" + (char) last).messageChecksum() == sum);
    }

    /** Each test has a row. */
    private static void tests(String text, Path folder) throws IOException {
        String told = Pattern.compile("\\| `(\\w+)` \\|").matcher(text).results().map(row -> row.group(1)).sorted()
                .collect(Collectors.joining(" "));
        try (Stream<Path> files = Files.list(folder)) {
            String due = files.map(file -> file.getFileName().toString()).filter(name -> name.endsWith("Test.java"))
                    .map(name -> name.replace(".java", "")).sorted().collect(Collectors.joining(" "));
            Check.equal("the tests", told, due);
        }
        Check.equal("the last line", text.contains("`N passed, 0 failed`"), true);
    }
}
