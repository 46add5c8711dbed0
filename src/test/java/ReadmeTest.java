import java.io.IOException;
import java.lang.reflect.InvocationTargetException;
import java.lang.reflect.Method;
import java.lang.reflect.Modifier;
import java.nio.charset.StandardCharsets;
import java.nio.file.Files;
import java.nio.file.Path;
import java.util.ArrayList;
import java.util.LinkedHashMap;
import java.util.List;
import java.util.Map;
import java.util.Set;
import java.util.TreeSet;
import java.util.regex.Matcher;
import java.util.regex.Pattern;

/** README.md says how to use the class: its examples are run, and its words are the document's; run from the project's root. */
public final class ReadmeTest {
    private static final Path README = Path.of("README.md");
    private static final Path DOCUMENT = Path.of("../shared/DOC.md");
    private static final List<String> TERMS = List.of("Rods", "Adding", "Settings", "Input text", "Undo", "Exceptions");
    private static final Pattern NEW = Pattern.compile(" {4}StuckRods x = new StuckRods\\(\\);");
    private static final Pattern EXAMPLE = Pattern.compile(" {4}x\\.(\\w+)\\((.*)\\); +// (throws \\w+|[-.0-9]+)(: .*)?");
    private static final Pattern CALL = Pattern.compile("`(?:\\w+ )?(\\w+)\\(.*\\)`");
    private static final Pattern THROWN = Pattern.compile("Throws `(\\w+)`");

    private ReadmeTest() {
    }

    private static String read(Path file) throws IOException {
        return Files.readString(file, StandardCharsets.UTF_8);
    }

    /** The words with one blank between, so that it does not matter where a line ends. */
    private static String words(String text) {
        return text.replaceAll("\\s+", " ").strip();
    }

    /** What stands below each heading, up to the next one, by the heading. */
    private static Map<String, String> sections(String text) {
        Map<String, String> sections = new LinkedHashMap<>();
        String heading = "";
        for (String line : text.split("\n")) {
            if (line.startsWith("#")) {
                heading = line.replaceFirst("#+ ", "");
                Check.holds("the heading " + heading + " stands once", !sections.containsKey(heading));
                sections.put(heading, "");
            } else {
                sections.merge(heading, line + "\n", String::concat);
            }
        }
        return sections;
    }

    /** What README.md says of each call, by the call's name. */
    private static Map<String, String> calls(String readme) {
        Map<String, String> calls = new LinkedHashMap<>();
        for (Map.Entry<String, String> section : sections(readme).entrySet()) {
            Matcher call = CALL.matcher(section.getKey());
            if (call.matches()) {
                calls.put(call.group(1), section.getValue());
            }
        }
        return calls;
    }

    private static Map<String, Method> face() {
        Map<String, Method> face = new LinkedHashMap<>();
        for (Method method : StuckRods.class.getDeclaredMethods()) {
            if (Modifier.isPublic(method.getModifiers())) {
                face.put(method.getName(), method);
            }
        }
        return face;
    }

    private static void refusals(Map<String, String> calls) {
        Check.holds("the constructor is told", calls.containsKey("StuckRods"));
        Check.due("calls that are told, with the constructor", calls.size(), face().size() + 1);
        for (Method method : face().values()) {
            String told = calls.get(method.getName());
            Check.holds(method.getName() + " is told", told != null);
            List<String> due = new ArrayList<>();
            for (Class<?> thrown : method.getExceptionTypes()) {
                due.add(thrown.getSimpleName());
            }
            List<String> got = new ArrayList<>();
            Matcher thrown = THROWN.matcher(told == null ? "" : told);
            while (thrown.find()) {
                got.add(thrown.group(1));
            }
            Check.same("what " + method.getName() + " throws", got.toString(), due.toString());
        }
    }

    private static Object[] arguments(String text) {
        List<Object> values = new ArrayList<>();
        for (String part : text.isEmpty() ? new String[0] : text.split(", ")) {
            values.add(part.startsWith("'") ? (int) part.charAt(1) : Integer.parseInt(part));
        }
        return values.toArray();
    }

    private static String answered(StuckRods x, Method method, Object[] arguments) {
        try {
            return String.valueOf(method.invoke(x, arguments));
        } catch (InvocationTargetException e) {
            return "throws " + e.getCause().getClass().getSimpleName();
        } catch (IllegalAccessException | IllegalArgumentException e) {
            return "is no call";
        }
    }

    /** Every example answers as it says, every call has one, and those that save a state are told as undoable. */
    private static void examples(String readme, Map<String, String> calls) {
        Map<String, Method> face = face();
        Set<String> missing = new TreeSet<>(face.keySet());
        StuckRods x = new StuckRods();
        for (String line : readme.split("\n")) {
            Matcher example = EXAMPLE.matcher(line);
            if (NEW.matcher(line).matches()) {
                x = new StuckRods();
            } else if (example.matches() && face.containsKey(example.group(1))) {
                String name = example.group(1);
                int saved = x.count(7);
                String answer = answered(x, face.get(name), arguments(example.group(2)));
                Check.same(line.strip(), answer, example.group(3));
                if (!answer.startsWith("throws")) {
                    missing.remove(name);
                    boolean undoable = calls.getOrDefault(name, "").contains("Undoable");
                    int due = name.equals("undo") ? saved - 1 : Math.min(6, saved + (undoable ? 1 : 0));
                    Check.due(line.strip() + ": saved states", x.count(7), due);
                }
            } else {
                Check.holds("this is an example: " + line, !line.startsWith("    x."));
            }
        }
        Check.holds("each call has an example, but for " + missing, missing.isEmpty());
    }

    /** README.md has every sentence of the document's promises and of its terms. */
    private static void documentsWords(String readme, Map<String, String> calls) throws IOException {
        if (!Files.exists(DOCUMENT)) {
            System.out.println("README.md is not held against " + DOCUMENT + ", which is not here");
            return;
        }
        Map<String, String> document = sections(read(DOCUMENT));
        int promises = 0;
        for (Map.Entry<String, String> section : document.entrySet()) {
            if (section.getKey().startsWith("Promise ")) {
                promises++;
                promise(section.getKey(), section.getValue(), readme, calls);
            }
        }
        Check.due("promises that are told", promises, calls.size());
        for (String term : TERMS) {
            Check.holds("the document has " + term, document.containsKey(term));
            for (String paragraph : document.getOrDefault(term, "").split("\n\n")) {
                if (!paragraph.startsWith("Ahead of") && !paragraph.startsWith("The constants")) {
                    Check.holds("README.md says: " + paragraph, words(readme).contains(words(paragraph)));
                }
            }
        }
        Check.holds("README.md says what NONE is", words(readme).contains("`NONE = -1`: There is nothing to return."));
    }

    private static void promise(String heading, String text, String readme, Map<String, String> calls) {
        Matcher face = Pattern.compile("`((?:\\w+ )?(\\w+)\\(.*?\\))[^`]*`: (.*)").matcher(text.strip().split("\n")[0]);
        Check.holds(heading + " has a call", face.matches());
        if (face.matches()) {
            Check.holds(heading + ": the heading", readme.contains("#### `" + face.group(1) + "`\n"));
            String told = words(calls.getOrDefault(face.group(2), ""));
            Check.holds(heading + ": " + face.group(3), told.startsWith(words(face.group(3))));
            for (String line : text.strip().split("\n")) {
                if (!line.startsWith("`")) {
                    Check.holds(heading + ": " + line, told.contains(words(line)));
                }
            }
        }
    }

    public static void main(String[] args) throws IOException {
        String readme = read(README);
        Map<String, String> calls = calls(readme);
        refusals(calls);
        examples(readme, calls);
        documentsWords(readme, calls);
        Check.holds("README.md says how to run the tests", readme.contains("\n    bash .ci/run\n"));
        Check.end();
    }
}
