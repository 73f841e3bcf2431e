import java.io.IOException;
import java.lang.reflect.Constructor;
import java.lang.reflect.Executable;
import java.lang.reflect.Field;
import java.lang.reflect.Method;
import java.lang.reflect.Modifier;
import java.nio.file.Files;
import java.nio.file.Path;
import java.util.Arrays;
import java.util.Set;
import java.util.TreeSet;
import java.util.regex.Matcher;
import java.util.regex.Pattern;
import java.util.stream.Collectors;

/** The class shows the face that the document gives, and nothing else (the paths of the document and the program are the
 * arguments). */
public final class FaceTest {
    public static void main(String[] args) throws IOException {
        String document = Files.readString(Path.of(args[0]));
        Check.equal("the headings", headingsIn(Files.readString(Path.of(args[1]))), headingsOf(document));
        Set<String> due = faceOf(document);
        Set<String> got = new TreeSet<>();
        Set<String> names = new TreeSet<>();
        for (Constructor<?> constructor : TurnipPages.class.getDeclaredConstructors()) {
            got.add(described(constructor, "TurnipPages"));
        }
        for (Method method : TurnipPages.class.getDeclaredMethods()) {
            if (!Modifier.isPrivate(method.getModifiers())) {
                got.add(described(method, method.getReturnType().getSimpleName() + " " + method.getName()));
                names.add(method.getName());
            }
        }
        Check.equal("the document has a face", due.size(), 52);
        Check.equal("the face", String.join("\n", got), String.join("\n", due));
        Check.equal("public and final", TurnipPages.class.getModifiers(), Modifier.PUBLIC | Modifier.FINAL);
        for (Field field : TurnipPages.class.getDeclaredFields()) {
            Check.equal("private field " + field.getName(), Modifier.isPrivate(field.getModifiers()), true);
        }
        for (Class<?> inside : TurnipPages.class.getDeclaredClasses()) {
            Check.equal("private static " + inside.getName(),
                    Modifier.isPrivate(inside.getModifiers()) && Modifier.isStatic(inside.getModifiers()), true);
            for (Method method : inside.getDeclaredMethods()) {
                Check.equal("a name of the face: " + method, names.contains(method.getName()), false);
            }
        }
        for (Method method : TurnipPages.class.getDeclaredMethods()) {
            Check.equal("a name of the face: " + method,
                    Modifier.isPrivate(method.getModifiers()) && names.contains(method.getName()), false);
        }
        Check.end("FaceTest");
    }

    private static Set<String> faceOf(String document) {
        String block = document.substring(document.indexOf("```java"), document.indexOf("## Terms"));
        Set<String> face = new TreeSet<>();
        Matcher lines = Pattern.compile("public (?!final)([^(]+)\\(([^)]*)\\)(?: throws ([^;]*))?;").matcher(block);
        while (lines.find()) {
            String types = Arrays.stream(lines.group(2).split(", ")).map(s -> s.split(" ")[0]).collect(Collectors.joining(", "));
            face.add("public " + lines.group(1) + "(" + types + ")" + (lines.group(3) == null ? "" : " throws " + lines.group(3)));
        }
        return face;
    }

    /** The headings that the document wants ahead of the calls, with the calls of each in their order. */
    private static String headingsOf(String document) {
        Matcher headings = Pattern.compile("Ahead of the calls (.*) the interface says: (---- .*)\\.").matcher(document);
        StringBuilder out = new StringBuilder();
        while (headings.find()) {
            out.append(headings.group(2)).append('\n');
            out.append(headings.group(1).replaceAll("`,? ?", " ").trim().replaceAll(" +", "\n")).append('\n');
        }
        return out.toString();
    }

    private static String headingsIn(String program) {
        Matcher lines = Pattern.compile("(?m)^ {4}// (---- .*)$|^ {4}public \\w+ (\\w+)\\(").matcher(program);
        StringBuilder out = new StringBuilder();
        while (lines.find()) {
            String heading = lines.group(1);
            if (heading == null || !heading.equals("---- what the calls share")) {
                out.append(heading == null ? lines.group(2) : heading).append('\n');
            }
        }
        return out.toString();
    }

    private static String described(Executable executable, String name) {
        String types = Arrays.stream(executable.getParameterTypes()).map(Class::getSimpleName).collect(Collectors.joining(", "));
        String thrown = Arrays.stream(executable.getExceptionTypes()).map(Class::getSimpleName).collect(Collectors.joining(", "));
        return Modifier.toString(executable.getModifiers()) + " " + name + "(" + types + ")"
                + (thrown.isEmpty() ? "" : " throws " + thrown);
    }
}
