import java.io.IOException;
import java.nio.file.Files;
import java.nio.file.Path;
import java.util.LinkedHashMap;
import java.util.LinkedHashSet;
import java.util.Map;
import java.util.Set;

/** The sentences of ../shared/DOC.md: each is named by the test of its own, and none is left without one. */
final class Doc {
    private static final Map<String, Set<String>> SENTENCES = new LinkedHashMap<>();
    private static final Set<String> TOLD = new LinkedHashSet<>();
    private static String section = "";

    private Doc() {
    }

    static void read(String path) throws IOException {
        String text = Files.readString(Path.of(path));
        text = text.substring(0, text.indexOf("## Not promised"));
        readTerms(text.substring(text.indexOf("## Terms"), text.indexOf("## Promise 1:")));
        readPromises(text.substring(text.indexOf("## Promise 1:")));
        section = "What it is";
        keep("A store of telegrams that are carved into roots: texts are encoded with run lengths and escapes, divided into pages,"
                + " protected by checksums, and pages rot with the dampness of their root.", text);
        keep("An object is used for at most 512 calls after it has been made; what later calls answer is free.", text);
    }

    private static void readTerms(String terms) {
        for (String line : terms.split("\n")) {
            if (line.isBlank() || line.startsWith("#") || line.startsWith("```") || line.startsWith("Ahead of the calls")) {
                continue;
            }
            if (line.matches("[A-Z][a-z]+\\. .*")) {
                section = line.substring(0, line.indexOf('.'));
                line = line.substring(line.indexOf('.') + 2);
            }
            keepEach(line.trim());
        }
    }

    private static void readPromises(String promises) {
        for (String line : promises.split("\n")) {
            if (line.startsWith("## ")) {
                section = line.substring(3);
            } else if (!line.isBlank() && !isPlainParameter(line)) {
                keepEach(line.replaceFirst("^`[^`]*`: ", ""));
            }
        }
    }

    /** A parameter's line can name a range, which is tested, or just what the parameter is. */
    private static boolean isPlainParameter(String line) {
        return line.startsWith("- ") && !line.matches(".*([0-9]|any).*");
    }

    private static void keepEach(String line) {
        for (String sentence : line.split("(?<=\\.) (?=[A-Z])")) {
            keep(sentence, sentence);
        }
    }

    private static void keep(String sentence, String text) {
        Check.equal("the document says: " + sentence, text.contains(sentence), true);
        SENTENCES.computeIfAbsent(section, name -> new LinkedHashSet<>()).add(sentence);
    }

    static void section(String name) {
        Check.equal("there is a section " + name, SENTENCES.containsKey(name), true);
        section = name;
    }

    /** What is checked from here on is what this sentence of the section asks. */
    static void says(String sentence) {
        Check.equal(section + " says: " + sentence, SENTENCES.get(section).contains(sentence), true);
        TOLD.add(section + ": " + sentence);
        Check.under(section + ": " + sentence);
    }

    static void requireAll() {
        Check.under("");
        for (String name : SENTENCES.keySet()) {
            for (String sentence : SENTENCES.get(name)) {
                Check.equal("has a test: " + name + ": " + sentence, TOLD.contains(name + ": " + sentence), true);
            }
        }
    }
}
