import java.lang.reflect.InvocationTargetException;
import java.lang.reflect.Method;
import java.util.ArrayList;
import java.util.List;
import java.util.TreeMap;

/** All promises together: long runs of calls, with the same answers from TurnipPages and PlainPages. */
public final class RunsTest {
    private static final int RUNS = 3000;
    private static final int CALLS = 512;
    private static final String[] ALPHABETS = {"a", "ab", "a1", "a\\1", "abc \\019~", "19\\", "3a", "93ab\\7", " ~/:[]^_`"};
    private static final String[] DENIALS = {"addRoot 1", "dry 4", "carve 2", "carve 1", "damage 4", "recarve 3",
        "recarve 5", "recarve 6", "recarve 1", "move 4", "move 1", "read 3", "read 5", "read 6", "execute 7 1",
        "execute 7 3", "execute 7 4", "execute 7 5", "execute 7 6", "execute 7 8"};
    private static final String[] COMMANDS = {"root ", "dry ", "age ", "recarve ", "move ", "drop "};
    /** A code that becomes longer or shorter when it is carved anew. */
    private static final String[] FORGED = {"8\\13\\1", "8\\13\\18\\23\\2", "aaaa", "3a3a3a3a", "9a9a9a", "\\1\\1\\1",
        "3\\\\3\\\\", "8\\13\\18\\23\\28\\33\\38\\43\\48\\53\\5", "aaaaaaaaaaaaa", "9a9b9a9b9a9b9a"};

    private final TreeMap<String, Method> turnip = methodsOf(TurnipPages.class);
    private final TreeMap<String, Method> plain = methodsOf(PlainPages.class);
    private final TreeMap<String, Integer> answered = new TreeMap<>();
    private final List<String> told = new ArrayList<>();
    private TurnipPages tried;
    private PlainPages model;
    private boolean wrong;
    private long seed;
    private String alphabet;
    private int changesPerCall;

    public static void main(String[] args) {
        RunsTest test = new RunsTest();
        for (int run = 0; run < RUNS; run++) {
            test.run(run);
        }
        test.requireVariety();
        Check.end("RunsTest");
    }

    private static TreeMap<String, Method> methodsOf(Class<?> type) {
        TreeMap<String, Method> methods = new TreeMap<>();
        for (Method method : type.getDeclaredMethods()) {
            if (java.lang.reflect.Modifier.isPublic(method.getModifiers())) {
                methods.put(method.getName(), method);
            }
        }
        return methods;
    }

    /** A number below the bound; the same run always has the same numbers. */
    private int below(int bound) {
        seed = seed * 6364136223846793005L + 1442695040888963407L;
        return (int) ((seed >>> 33) % bound);
    }

    private boolean rarely(int share) {
        return below(share) == 0;
    }

    private void run(int run) {
        seed = run * 7919L + 13;
        told.clear();
        wrong = false;
        tried = new TurnipPages();
        model = new PlainPages();
        alphabet = ALPHABETS[below(ALPHABETS.length)];
        changesPerCall = 2 + below(6);
        while (told.size() < CALLS && !wrong) {
            step();
        }
        Check.equal("run " + run + " " + (wrong ? told : ""), wrong, false);
    }

    private Object call(String name, Object... arguments) {
        if (told.size() >= CALLS || wrong) {
            return 0;
        }
        Object got = answer(turnip.get(name), tried, arguments);
        Object due = answer(plain.get(name), model, arguments);
        told.add(name + List.of(arguments) + " " + got);
        answered.merge(name + " " + (got instanceof String ? got : "answers"), 1, Integer::sum);
        if (due.equals("throws UnsupportedOperationException")) {
            int number = model.denial();
            answered.merge(name + " is denied by " + (number == 7 ? "7 " + model.denialCause() : number), 1, Integer::sum);
        }
        if (!got.equals(due)) {
            told.add("due is " + due);
            wrong = true;
        }
        return got;
    }

    private static Object answer(Method method, Object on, Object[] arguments) {
        try {
            return method.invoke(on, arguments);
        } catch (InvocationTargetException e) {
            return "throws " + e.getCause().getClass().getSimpleName();
        } catch (IllegalAccessException e) {
            throw new AssertionError(e);
        }
    }

    private void step() {
        int kind = below(10);
        if (kind < changesPerCall) {
            change();
        } else if (kind < 9) {
            look();
        } else {
            seldom();
        }
        if (rarely(6)) {
            call("denial");
            call("denialDetail");
            call("denialCause");
        }
    }

    private char sign() {
        if (rarely(300)) {
            return (char) (rarely(2) ? 127 + below(200) : below(32));
        }
        return rarely(12) ? (char) (32 + below(95)) : alphabet.charAt(below(alphabet.length()));
    }

    private int telegram() {
        int count = (Integer) answer(plain.get("telegramCount"), model, new Object[0]);
        if (count == 0 || rarely(15)) {
            return below(8) - 2;
        }
        return (Integer) answer(plain.get("telegramAt"), model, new Object[] {below(count)});
    }

    private int root() {
        return rarely(25) ? below(8) - 2 : below(Math.max(1, (Integer) answer(plain.get("rootCount"), model, new Object[0])));
    }

    private void typeText() {
        char last = sign();
        int length = rarely(3) ? below(42) : 1 + below(14);
        for (int i = 0; i < length; i++) {
            call("type", last);
            if (rarely(3)) {
                last = sign();
            }
        }
    }

    private void carve() {
        if (!rarely(12)) {
            typeText();
        }
        call("carve", root(), rarely(20) ? below(14) - 2 : below(10));
    }

    private void carveForged() {
        String code = FORGED[below(FORGED.length)];
        call("clearMessage");
        String start = Make.textOfSum(code.length(), Make.sum(unfolded(code)));
        for (char character : start.toCharArray()) {
            call("type", character);
        }
        int root = root();
        Object number = call("carve", root, below(10));
        if (number instanceof Integer) {
            for (int i = 0; i < code.length(); i++) {
                call("damage", number, i, code.charAt(i));
            }
            call("isReadable", number);
            for (int i = rarely(2) ? 0 : 8; i < 8; i++) {
                call("type", 'z');
                call("carve", root, below(10));
            }
            call("recarve", number);
        }
    }

    private static String unfolded(String code) {
        PlainPages pages = new PlainPages();
        for (char character : code.toCharArray()) {
            pages.type(character);
        }
        int length = pages.decode();
        StringBuilder text = new StringBuilder();
        for (int i = 0; i < length; i++) {
            text.append(pages.lineCharacter(i));
        }
        return text.toString();
    }

    private void change() {
        switch (below(14)) {
            case 0 -> call("addRoot", rarely(10) ? below(12) - 3 : below(6));
            case 1 -> call("dry", root());
            case 2, 3, 4 -> carve();
            case 5 -> damage();
            case 6 -> call("recarve", telegram());
            case 7 -> call("move", telegram(), root());
            case 8 -> call(rarely(2) ? "drop" : "read", telegram());
            case 9 -> call("age", rarely(10) ? below(40) - 10 : 1 + below(rarely(3) ? 20 : 3));
            case 10, 11 -> execute();
            case 12 -> call("undo");
            default -> {
                if (rarely(3)) {
                    carveForged();
                } else {
                    call("undo");
                }
            }
        }
    }

    private void damage() {
        int telegram = telegram();
        call("damage", telegram, rarely(15) ? below(120) - 10 : below(6),
                rarely(20) ? (char) (127 + below(200)) : sign());
        if (rarely(2)) {
            call("read", telegram);
            call("decodedLength", telegram);
            call("decodedLengthByUnits", telegram);
        }
    }

    private String digits(int number) {
        return rarely(8) && number < 10 ? "0" + number : "" + number;
    }

    private String command() {
        int kind = below(COMMANDS.length);
        int number = switch (kind) {
            case 0 -> below(rarely(8) ? 10 : 6);
            case 1 -> Math.max(root(), 0);
            case 2 -> rarely(15) ? below(100) : 1 + below(3);
            default -> Math.max(telegram(), 0);
        };
        String text = COMMANDS[kind] + (kind < 2 ? "" + number : digits(number));
        return kind == 4 ? text + " " + Math.max(root(), 0) : text;
    }

    private void execute() {
        StringBuilder commands = new StringBuilder(command());
        int count = below(rarely(4) ? 9 : 3);
        for (int i = 0; i < count; i++) {
            commands.append(';').append(command());
        }
        if (rarely(4)) {
            int index = below(commands.length());
            switch (below(4)) {
                case 0 -> commands.setLength(index);
                case 1 -> commands.deleteCharAt(index);
                case 2 -> commands.setCharAt(index, "0129 ;adermov".charAt(below(13)));
                default -> commands.insert(index, "0129 ;adermov\u2603".charAt(below(14)));
            }
        }
        for (int i = 0; i < commands.length(); i++) {
            call("feed", commands.charAt(i));
        }
        if (!rarely(20)) {
            call("execute");
            if (rarely(2)) {
                call("faultPosition");
            }
        }
    }

    private void look() {
        String[] plainNames = {"encodedLength", "encodedLengthByRuns", "messageChecksum", "rootCount", "dampestRoot",
            "telegramCount", "rottenPages", "day", "carvedCharacters", "meanCodeLength", "rottenShare", "faultPosition",
            "undoCount"};
        String[] ofTelegram = {"rootOf", "checksumOf", "codeLength", "decodedLength", "decodedLengthByUnits", "isReadable",
            "pageCount", "daysUntilRotten", "writeTelegram", "read"};
        switch (below(8)) {
            case 0, 1 -> call(plainNames[below(plainNames.length)]);
            case 2, 3 -> call(ofTelegram[below(ofTelegram.length)], telegram());
            case 4 -> call(rarely(2) ? "dampness" : "pagesIn", root());
            case 5 -> call(rarely(2) ? "telegramByPriority" : "telegramByRot", below(7) - 1);
            case 6 -> call("telegramAt", below(7) - 1);
            default -> lookInside();
        }
    }

    private void lookInside() {
        switch (below(4)) {
            case 0 -> call("rotOf", telegram(), below(5) - 1);
            case 1 -> call("codeCharacter", telegram(), below(14) - 1);
            default -> {
                Object length = call(rarely(2) ? "writeTelegram" : "read", telegram());
                int start = below(10) - 1;
                for (int i = start; length instanceof Integer most && i <= most && i < start + 20; i++) {
                    call("lineCharacter", i);
                }
            }
        }
    }

    private void seldom() {
        switch (below(6)) {
            case 0 -> call("saveSnapshot");
            case 1 -> {
                if (rarely(2)) {
                    call("restoreSnapshot");
                }
            }
            case 2 -> call("clearMessage");
            case 3 -> {
                typeText();
                call("encode");
                call("lineCharacter", below(20) - 1);
            }
            default -> {
                if (rarely(2)) {
                    call("clearMessage");
                }
                typeText();
                call("decode");
                call("faultPosition");
                call("lineCharacter", below(20) - 1);
            }
        }
    }

    /** Runs that never reach an answer would prove nothing about it. */
    private void requireVariety() {
        for (String name : turnip.keySet()) {
            Check.equal("calls of " + name, answered.getOrDefault(name + " answers", 0) > 100, true);
            for (Class<?> exception : turnip.get(name).getExceptionTypes()) {
                String what = name + " throws " + exception.getSimpleName();
                Check.equal(what, answered.getOrDefault(what, 0) > 20, true);
            }
        }
        for (String denial : DENIALS) {
            String what = denial.replaceFirst(" ", " is denied by ");
            Check.equal(what, answered.getOrDefault(what, 0) > 20, true);
        }
    }
}
