import java.io.IOException;
import java.nio.file.Files;
import java.nio.file.Path;
import java.util.regex.Matcher;
import java.util.regex.Pattern;

/** README.md says how the class is used, and says it rightly; run in the project's folder. */
public final class ReadmeTest {
    private static final Path README = Path.of("README.md");
    private static final Path HERE = Path.of("src/test/java/ReadmeTest.java");
    private static final String[] SAID = {
        "new TripleSums()", "`int NONE = -100000`", "at most 512 calls", "Double.doubleToRawLongBits",
        "2^3150", "(2^54 - 1) * 2^970", "-1000000 to 1000000", "\n.ci/run\n",
    };

    public static void main(String[] args) throws IOException {
        Check check = new Check();
        String readme = Files.readString(README);
        for (String words : SAID) {
            check.isTrue("README.md says " + words, readme.contains(words));
        }
        for (String member : Document.members()) {
            if (member.contains("(")) {
                hasRowOf(check, readme, member);
            }
        }
        check.same("README.md's example", exampleOf(readme), exampleHere());
        runExample(check);
        check.end();
    }

    /** A row of the table with the method as the document writes it, and with its exceptions. */
    private static void hasRowOf(Check check, String readme, String member) {
        String[] parts = member.replaceFirst("^public ", "").split(" throws ");
        Matcher row = Pattern.compile("(?m)^\\| `" + Pattern.quote(parts[0]) + "` \\|[^|\n]+\\|(.*)\\|$")
                .matcher(readme);
        String exceptions = row.find() ? row.group(1).replace("`", "").trim() : "no row";
        check.same("README.md's exceptions of " + parts[0], exceptions, parts.length == 2 ? parts[1] : "");
    }

    private static String exampleOf(String readme) {
        return between(readme, "```java\n", "```");
    }

    private static String exampleHere() throws IOException {
        String code = Files.readString(HERE);
        return between(code, "// The example begins.\n", "        // The example ends.")
                .replaceAll("(?m)^ {8}", "");
    }

    private static String between(String text, String first, String last) {
        int from = text.indexOf(first);
        int to = from < 0 ? -1 : text.indexOf(last, from + first.length());
        return to < 0 ? "nothing between " + first : text.substring(from + first.length(), to);
    }

    private static void runExample(Check check) {
        // The example begins.
        TripleSums sums = new TripleSums();
        long tenth = Double.doubleToRawLongBits(0.1);
        long one = Double.doubleToRawLongBits(1.0);
        sums.add(0, one, one, one, 3);                // sum 0: 3
        sums.add(0, tenth, tenth, one, -1);           // sum 0: 3 - 0.1 * 0.1, exactly
        sums.plus(1, 0, -2);                          // sum 1: -2 times sum 0
        int sign = sums.sign(1);                      // -1
        int order = sums.compare(1, 0);               // -1: sum 1 is less than sum 0
        int larger = sums.compareSizes(1, 0);         // 1: without the signs it is more
        double rounded = Double.longBitsToDouble(sums.nearest(1));    // -5.98
        int top = sums.top(1);                        // 2: its size is 4 or more, and less than 8
        boolean four = sums.bit(1, 2);                // true
        long whole = sums.word(1, 0);                 // 5: what its size is without its fraction
        int none = sums.top(2);                       // TripleSums.NONE: sum 2 is 0
        // The example ends.
        check.same("sign", sign, -1);
        check.same("order", order, -1);
        check.same("larger", larger, 1);
        check.same("rounded", rounded, -5.98);
        check.same("top", top, 2);
        check.same("four", four, true);
        check.same("whole", whole, 5L);
        check.same("none", none, TripleSums.NONE);
    }
}
