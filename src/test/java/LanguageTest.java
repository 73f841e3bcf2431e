import java.io.IOException;
import java.nio.file.Files;
import java.nio.file.Path;
import java.util.regex.Matcher;
import java.util.regex.Pattern;

/** What ../shared/LANGUAGE.md forbids and a look at the text of the program (the argument) can find. */
public final class LanguageTest {
    private static final String[] FORBIDDEN = {"\\bpackage\\b", "->", "::", "\\btry\\b", "\\bcatch\\b", "\\bfinally\\b",
        "\\bsynchronized\\b", "\\bassert\\b", "\\binstanceof\\b", "static \\{", "Exact\\b", "\\bStringBuilder\\b",
        "\\bThread\\b", "\\bRandom\\b", "\\bObject\\b", "\\bOverride\\b", "\\bprotected\\b", "getMessage",
        "System\\.(?!arraycopy)", "Math\\.(?!max|min|floorMod)\\w+", "import (?!java\\.util\\.NoSuchElementException;)",
        "throw (?!new (IllegalState|IllegalArgument|IndexOutOfBounds|Arithmetic|UnsupportedOperation|NoSuchElement)"
            + "Exception\\(\\);)", "\\bwhile\\b", "static (?!final|int|boolean|void|String)"};

    public static void main(String[] args) throws IOException {
        String text = Files.readString(Path.of(args[0]));
        String program = text.replaceAll("(?s)/\\*.*?\\*/", "").replaceAll("//[^\n]*", "");
        for (String forbidden : FORBIDDEN) {
            Matcher found = Pattern.compile(forbidden).matcher(program);
            Check.equal(forbidden, found.find() ? found.group() : "nothing", "nothing");
        }
        for (int i = 0; i < text.length(); i++) {
            if (text.charAt(i) != '\n' && (text.charAt(i) < 32 || text.charAt(i) > 126)) {
                Check.equal("a sign at " + i, (int) text.charAt(i), 0);
            }
        }
        Check.equal("classes", Pattern.compile("\\bclass \\w+").matcher(program).results().count() <= 12, true);
        methodsAreShort(program);
        Check.end("LanguageTest");
    }

    private static void methodsAreShort(String program) {
        String[] lines = program.split("\n");
        int start = -1;
        String indent = "";
        for (int i = 0; i < lines.length; i++) {
            if (start >= 0 && lines[i].equals(indent + "}")) {
                Check.equal("lines of " + lines[start].trim(), i - start <= 60, true);
                start = -1;
            }
            if (start < 0 && lines[i].matches("( {4}| {8})[^ ].*\\) ?(throws .*)?\\{") && !lines[i].contains("class ")) {
                start = i;
                indent = lines[i].replaceAll("[^ ].*", "");
            }
        }
    }
}
