import java.io.IOException;
import java.lang.reflect.Field;
import java.lang.reflect.Method;
import java.lang.reflect.Modifier;
import java.nio.charset.StandardCharsets;
import java.nio.file.Files;
import java.nio.file.Path;
import java.util.ArrayList;
import java.util.Arrays;
import java.util.List;
import java.util.regex.Matcher;
import java.util.regex.Pattern;

/** What of LANGUAGE.md can be seen in the program's text and in its classes; run from the project's root. */
public final class LanguageTest {
    private static final Path PROGRAM = Path.of("src/main/java/StuckRods.java");
    private static final List<String> RULED_OUT = List.of(
        "->", "::", "\\bimport\\b", "\\bpackage\\b", "\\btry\\b", "\\bcatch\\b", "\\bfinally\\b", "\\bsynchronized\\b",
        "\\bassert\\b", "\\bvar\\b", "\\bSystem\\b", "\\bThread\\b", "\\bDouble\\b", "\\bFloat\\b", "\\bObject\\b",
        "\\bThrowable\\b", "\\w*Exact\\b", "\\b(equals|hashCode|toString)\\b", "\\bstatic\\s*\\{", "\"\\s*\\+", "\\+\\s*\"",
        "[^\\x00-\\x7F]");

    private LanguageTest() {
    }

    private static String withoutComments(String text) {
        return text.replaceAll("(?s)/\\*.*?\\*/", "").replaceAll("//[^\n]*", "");
    }

    private static void ruledOut(String code) {
        for (String pattern : RULED_OUT) {
            Matcher matcher = Pattern.compile(pattern).matcher(code);
            Check.holds("the program does without " + pattern, !matcher.find());
        }
    }

    private static void mathAlone(String code) {
        Matcher matcher = Pattern.compile("\\bMath\\.(\\w+)").matcher(code);
        while (matcher.find()) {
            Check.holds("Math." + matcher.group(1), List.of("abs", "floorMod").contains(matcher.group(1)));
        }
    }

    private static List<Class<?>> classes() {
        List<Class<?>> classes = new ArrayList<>(Arrays.asList(StuckRods.class.getDeclaredClasses()));
        classes.add(StuckRods.class);
        return classes;
    }

    /** Rules 5 and 11: static fields are constants, and how much a class and a method may hold. */
    private static void shapes() {
        Check.holds("at most 12 classes", classes().size() <= 12);
        for (Class<?> type : classes()) {
            int ofObjects = 0;
            for (Field field : type.getDeclaredFields()) {
                if (Modifier.isStatic(field.getModifiers())) {
                    Check.holds(field + " is a constant", Modifier.isFinal(field.getModifiers()) && field.getType() == int.class);
                } else {
                    ofObjects++;
                }
            }
            Check.holds(type + " has at most 20 fields", ofObjects <= 20);
            for (Method method : type.getDeclaredMethods()) {
                Check.holds(method + " takes at most 7 parameters", method.getParameterCount() <= 7);
            }
        }
    }

    /** Rule 11: methods stay short. */
    private static void lengths(String text) {
        Matcher method = Pattern.compile("(?m)^( +)[^\n/*]*\\)(?:\\s+throws[^;{]*)? \\{\n(?:(?!\\1\\}\n).*\n)*\\1\\}\n").matcher(text);
        int methods = 0;
        while (method.find()) {
            methods++;
            int lines = method.group().split("\n").length;
            Check.holds(method.group().lines().findFirst().orElse("").strip() + " has at most 60 lines", lines <= 60);
        }
        int due = 0;
        for (Class<?> type : classes()) {
            due += type.getDeclaredMethods().length + type.getDeclaredConstructors().length;
        }
        Check.due("methods that are found", methods, due);
    }

    public static void main(String[] args) throws IOException {
        String text = Files.readString(PROGRAM, StandardCharsets.UTF_8);
        String code = withoutComments(text);
        ruledOut(code);
        mathAlone(code);
        shapes();
        lengths(text);
        Check.end();
    }
}
