import java.lang.reflect.Constructor;
import java.lang.reflect.Field;
import java.lang.reflect.Method;
import java.lang.reflect.Modifier;
import java.util.ArrayList;
import java.util.Arrays;
import java.util.List;

/** The public face of the document, and no other member that is not private. */
public final class FaceTest {
    private static final String I = "IndexOutOfBoundsException";
    private static final String A = "IllegalArgumentException";
    private static final String S = "IllegalStateException";

    private static final List<String> FACE = List.of(
        "int move(int, int, int) throws " + I + ", " + A + ", " + S,
        "int stick(int, int) throws " + I + ", " + A,
        "int set(int) throws " + A,
        "int add(int, int) throws " + I + ", " + A + ", " + S,
        "int less(int, int) throws " + I + ", " + A + ", " + S,
        "int pay(int) throws " + I + ", " + S,
        "int tidy()",
        "int append(int) throws " + A + ", " + S,
        "int clearBuffer()",
        "int firstError()",
        "int reckon() throws " + A,
        "int undo() throws " + S,
        "int rod(int, int) throws " + I + ", " + A,
        "long whole()",
        "int count(int) throws " + A,
        "int moves(int, int) throws " + I + ", " + A,
        "int ifAdded(int, int) throws " + I + ", " + A,
        "int toShow(int) throws " + A,
        "int cheapestLoan()",
        "double looseness()",
        "long digest()");

    private FaceTest() {
    }

    private static String joined(Class<?>[] types) {
        List<String> names = new ArrayList<>();
        for (Class<?> type : types) {
            names.add(type.getSimpleName());
        }
        return String.join(", ", names);
    }

    private static String told(Method method) {
        String text = method.getReturnType() + " " + method.getName() + "(" + joined(method.getParameterTypes()) + ")";
        String thrown = joined(method.getExceptionTypes());
        return thrown.isEmpty() ? text : text + " throws " + thrown;
    }

    private static void methods() {
        List<String> names = new ArrayList<>();
        List<String> found = new ArrayList<>();
        for (Method method : StuckRods.class.getDeclaredMethods()) {
            if (!Modifier.isPrivate(method.getModifiers())) {
                Check.due(method + ": modifiers", method.getModifiers(), Modifier.PUBLIC);
                found.add(told(method));
                names.add(method.getName());
            }
        }
        for (String due : FACE) {
            Check.holds("the face has " + due, found.remove(due));
        }
        Check.holds("the face has nothing more than " + found, found.isEmpty());
        privateNames(StuckRods.class, names);
        for (Class<?> inside : StuckRods.class.getDeclaredClasses()) {
            privateNames(inside, names);
        }
    }

    private static void privateNames(Class<?> type, List<String> publicNames) {
        for (Method method : type.getDeclaredMethods()) {
            if (Modifier.isPrivate(method.getModifiers())) {
                Check.holds(method + " bears a name of its own", !publicNames.contains(method.getName()));
            }
        }
    }

    private static void fields() {
        for (Field field : StuckRods.class.getDeclaredFields()) {
            if (!Modifier.isPrivate(field.getModifiers())) {
                Check.holds(field + " is the constant", field.toString().equals("public static final int StuckRods.NONE"));
            }
        }
        Check.due("NONE", StuckRods.NONE, -1);
    }

    private static void fieldsOf(Class<?> type) {
        for (Field field : type.getDeclaredFields()) {
            int modifiers = field.getModifiers();
            Check.holds(field + " is final if it is static", !Modifier.isStatic(modifiers) || Modifier.isFinal(modifiers));
        }
    }

    public static void main(String[] args) {
        Check.due("the class's modifiers", StuckRods.class.getModifiers(), Modifier.PUBLIC | Modifier.FINAL);
        Constructor<?>[] constructors = StuckRods.class.getDeclaredConstructors();
        Check.due("constructors", constructors.length, 1);
        Check.holds("the constructor " + Arrays.toString(constructors), constructors[0].toString().equals("public StuckRods()"));
        methods();
        fields();
        fieldsOf(StuckRods.class);
        for (Class<?> inside : StuckRods.class.getDeclaredClasses()) {
            Check.holds(inside + " is static", Modifier.isStatic(inside.getModifiers()));
            Check.holds(inside + " is not public", !Modifier.isPublic(inside.getModifiers()) && !Modifier.isProtected(inside.getModifiers()));
            fieldsOf(inside);
        }
        Check.end();
    }
}
