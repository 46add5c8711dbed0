import java.io.IOException;
import java.nio.charset.StandardCharsets;
import java.nio.file.Files;
import java.nio.file.Path;
import java.util.List;
import java.util.regex.Matcher;
import java.util.regex.Pattern;

/** What of LANGUAGE.md can be seen in the program's text; run from the project's root. */
public final class LanguageTest {
    private static final Path PROGRAM = Path.of("src/main/java/StuckRods.java");
    private static final List<String> RULED_OUT = List.of(
        "->", "::", "\\bimport\\b", "\\bpackage\\b", "\\btry\\b", "\\bcatch\\b", "\\bfinally\\b", "\\bsynchronized\\b",
        "\\bassert\\b", "\\bvar\\b", "\\bSystem\\b", "\\bThread\\b", "\\bDouble\\b", "\\bFloat\\b", "\\bObject\\b",
        "\\bThrowable\\b", "\\w*Exact\\b", "\\b(equals|hashCode|toString)\\b", "\\bstatic\\s*\\{", "\"\\s*\\+", "\\+\\s*\"",
        "[^\\x00-\\x7F]");

    private LanguageTest() {
    }

    private static String withoutComments(String text) {
        return text.replaceAll("(?s)/\\*.*?\\*/", "").replaceAll("//[^\n]*", "");
    }

    private static void ruledOut(String code) {
        for (String pattern : RULED_OUT) {
            Matcher matcher = Pattern.compile(pattern).matcher(code);
            Check.holds("the program does without " + pattern, !matcher.find());
        }
    }

    private static void mathAlone(String code) {
        Matcher matcher = Pattern.compile("\\bMath\\.(\\w+)").matcher(code);
        while (matcher.find()) {
            Check.holds("Math." + matcher.group(1), List.of("abs", "floorMod").contains(matcher.group(1)));
        }
    }

    public static void main(String[] args) throws IOException {
        String text = Files.readString(PROGRAM, StandardCharsets.UTF_8);
        String code = withoutComments(text);
        ruledOut(code);
        mathAlone(code);
        Check.end();
    }
}
