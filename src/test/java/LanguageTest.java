import java.nio.file.Files;
import java.nio.file.Path;
import java.util.regex.Matcher;
import java.util.regex.Pattern;

/** What the eye may miss of LANGUAGE.md in the class's text; run in the project's folder. */
public final class LanguageTest {
    private static final Path SOURCE = Path.of("src/main/java/TripleSums.java");
    private static final String[] FORBIDDEN = {
        "\\bpackage\\b", "\\bcatch\\b", "\\btry\\b", "\\bfinally\\b", "\\bsynchronized\\b", "\\bassert\\b",
        "->", "::", "Exact\\s*\\(", "\\bstatic\\s*\\{", "\\bdouble\\b", "\\bfloat\\b", "\\bvar\\b",
        "\\bSystem\\.(?!arraycopy\\b)", "\\bBigInteger\\b", "\\bStrictMath\\b", "\\bThread\\b",
        "\\bimport\\s+(?!java\\.util\\.Arrays;)", "\\bArrays\\.(?!fill\\b|copyOf\\b|copyOfRange\\b)",
        "\\bequals\\b", "\\bhashCode\\b", "\\btoString\\b", "\\bgetMessage\\b",
        "\\bthrow\\s+(?!new (IndexOutOfBounds|IllegalArgument|IllegalState)Exception\\(\"[^\"]*\"\\);)",
    };

    public static void main(String[] args) throws Exception {
        Check check = new Check();
        String code = withoutComments(Files.readString(SOURCE));
        for (String pattern : FORBIDDEN) {
            Matcher found = Pattern.compile(pattern).matcher(code);
            check.isTrue("the class does without " + pattern, !found.find());
        }
        check.end();
    }

    private static String withoutComments(String text) {
        return text.replaceAll("(?s)/\\*.*?\\*/", "").replaceAll("//[^\n]*", "");
    }
}
