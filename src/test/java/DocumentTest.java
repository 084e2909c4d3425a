import java.io.IOException;
import java.nio.file.DirectoryStream;
import java.nio.file.Files;
import java.nio.file.Path;
import java.util.HashMap;
import java.util.Map;
import java.util.regex.Matcher;
import java.util.regex.Pattern;

/**
 * Every sentence of the document's first section, terms and promises is named by a test, in the
 * document's own words; run in the project's folder.
 */
public final class DocumentTest {
    private static final Path TESTS = Path.of("src/test/java");
    private static final String TEXT = "\"[^\"]*\"(?:\\s*\\+\\s*\"[^\"]*\")*";
    private static final Pattern CONSTANT = Pattern.compile("String (\\w+) =\\s*(" + TEXT + ");");
    private static final Pattern NAMED =
            Pattern.compile("check\\.sentence\\(\"([^\"]*)\",\\s*(" + TEXT + "|\\w+)\\);");

    public static void main(String[] args) throws IOException {
        Check check = new Check();
        Map<String, String> sections = Document.sections();
        Map<String, boolean[]> covered = new HashMap<>();
        sections.forEach((name, text) -> covered.put(name, new boolean[text.length()]));
        try (DirectoryStream<Path> files = Files.newDirectoryStream(TESTS, "*Test.java")) {
            for (Path file : files) {
                cover(check, file, sections, covered);
            }
        }
        check.isTrue("the document says what it is", sections.containsKey("What it is"));
        check.isTrue("the document has terms", sections.containsKey("Terms"));
        for (int promise = 1; promise <= 12; promise++) {
            check.isTrue("there is promise " + promise, sections.containsKey("Promise " + promise));
        }
        for (String name : sections.keySet()) {
            if (name.equals("What it is") || name.equals("Terms") || name.startsWith("Promise ")) {
                String left = left(sections.get(name), covered.get(name));
                check.same("what no test names of " + name, left, "");
            }
        }
        check.end();
    }

    private static void cover(Check check, Path file, Map<String, String> sections,
            Map<String, boolean[]> covered) throws IOException {
        String code = Files.readString(file);
        Map<String, String> constants = new HashMap<>();
        for (Matcher m = CONSTANT.matcher(code); m.find(); ) {
            constants.put(m.group(1), unquoted(m.group(2)));
        }
        for (Matcher m = NAMED.matcher(code); m.find(); ) {
            String word = m.group(2);
            String sentence = word.startsWith("\"") ? unquoted(word) : constants.getOrDefault(word, word);
            String text = sections.getOrDefault(m.group(1), "");
            int at = text.indexOf(sentence);
            check.isTrue(m.group(1) + " says \"" + sentence + "\", named in " + file, at >= 0);
            for (int k = at; at >= 0 && k < at + sentence.length(); k++) {
                covered.get(m.group(1))[k] = true;
            }
        }
    }

    private static String unquoted(String text) {
        return text.replaceAll("\"\\s*\\+\\s*\"", "").replaceAll("^\"|\"$", "");
    }

    /** What is not covered, but for marks, a promise's head (FaceTest has that) and a term's name. */
    private static String left(String text, boolean[] covered) {
        StringBuilder left = new StringBuilder();
        for (int k = 0; k < text.length(); k++) {
            left.append(covered[k] ? ' ' : text.charAt(k));
        }
        return left.toString().replaceAll("^`[^`]*`:|^BITS:", "").replaceAll("[\\s;:,.()]+", " ").trim();
    }
}
