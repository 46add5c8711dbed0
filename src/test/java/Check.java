import java.lang.reflect.InvocationTargetException;
import java.lang.reflect.Method;
import java.util.Arrays;
import java.util.Comparator;
import java.util.function.Consumer;

/** What the tests say with: answers that are due, exceptions that are due, and the end with its exit code. */
final class Check {
    static final Class<IndexOutOfBoundsException> INDEX = IndexOutOfBoundsException.class;
    static final Class<IllegalArgumentException> ARGUMENT = IllegalArgumentException.class;
    static final Class<IllegalStateException> STATE = IllegalStateException.class;
    static final int MOST_SAVED = 6;

    interface Call {
        long answer();
    }

    private static int asked = 0;
    private static int wrong = 0;
    private static int tests = 0;
    private static String test = "";

    private Check() {
    }

    /** Runs every test of the class: its methods without arguments whose names begin with "promise" or "terms". */
    static void runAll(Class<?> type) {
        Method[] methods = type.getDeclaredMethods();
        Arrays.sort(methods, Comparator.comparing(Method::getName));
        for (Method method : methods) {
            boolean named = method.getName().startsWith("promise") || method.getName().startsWith("terms");
            if (named && method.getParameterCount() == 0) {
                runOne(method);
            }
        }
        test = "";
        holds(type + " has tests", tests > 0);
        System.out.println(tests + " tests");
        end();
    }

    private static void runOne(Method method) {
        test = method.getName() + ": ";
        tests++;
        int askedBefore = asked;
        try {
            method.invoke(null);
        } catch (InvocationTargetException e) {
            holds("it ends, but for " + e.getCause(), false);
        } catch (IllegalAccessException e) {
            holds("it can be run", false);
        }
        holds("it asks something", asked > askedBefore);
    }

    static void due(String what, long got, long want) {
        asked++;
        if (got != want) {
            wrong++;
            System.out.println(test + what + " answered " + got + ", due is " + want);
        }
    }

    static void holds(String what, boolean holds) {
        asked++;
        if (!holds) {
            wrong++;
            System.out.println(test + what + " does not hold");
        }
    }

    static void same(String what, String got, String want) {
        holds(what + ": " + got + ", due is " + want, got.equals(want));
    }

    /** What all rods show, from the rod 8 to the rod 0. */
    static void shows(String what, StuckRods x, String due) {
        same(what + ": shows", Given.shown(x), due);
    }

    /** The rod's numbers, from its number 0 on, as many as are told. */
    static void rodIs(String what, StuckRods x, int rod, int... due) {
        for (int k = 0; k < due.length; k++) {
            due(what + ": rod(" + rod + ", " + k + ")", x.rod(rod, k), due[k]);
        }
    }

    static void counts(String what, StuckRods x, int... due) {
        for (int k = 0; k < due.length; k++) {
            due(what + ": count(" + k + ")", x.count(k), due[k]);
        }
    }

    /** The call throws this very class, and neither the state nor what is saved is another one behind it. */
    static void refuses(String what, StuckRods x, Class<? extends RuntimeException> due, Call call) {
        long before = x.digest();
        int saved = x.count(7);
        throwsThis(what, due, () -> call.answer());
        due(what + ": the saved states behind it", x.count(7), saved);
        due(what + ": the digest behind it", x.digest(), before);
    }

    /**
     * The call throws this very class, and the abacus stays as a twin that was not asked, down to the last saved state:
     * once with few saved states, and once with all of them, for then a state too many would push one out.
     */
    static void refuses(String what, Consumer<StuckRods> given, Class<? extends RuntimeException> due, Consumer<StuckRods> call) {
        for (int saved : new int[] {0, MOST_SAVED}) {
            StuckRods x = Given.behind(saved, given);
            throwsThis(what, due, () -> call.accept(x));
            twins(what + ", refused", x, Given.behind(saved, given));
        }
    }

    /** The call throws nothing, and the abacus stays as a twin that was not asked, down to the last saved state. */
    static void changesNothing(String what, Consumer<StuckRods> given, Consumer<StuckRods> call) {
        for (int saved : new int[] {0, MOST_SAVED}) {
            StuckRods x = Given.behind(saved, given);
            call.accept(x);
            twins(what, x, Given.behind(saved, given));
        }
    }

    /** The call saves the state from before it and no other, and pushes out the oldest one if there is no room. */
    static void savesOne(String what, Consumer<StuckRods> given, Consumer<StuckRods> call) {
        for (int saved : new int[] {0, MOST_SAVED}) {
            StuckRods x = Given.behind(saved, given);
            StuckRods twin = Given.behind(saved, given);
            int before = twin.count(7);
            call.accept(x);
            due(what + ": saved states", x.count(7), Math.min(before + 1, MOST_SAVED));
            due(what + ": undo", x.undo(), Math.min(before, MOST_SAVED - 1));
            same(what + ": undone", Given.sight(x), Given.sight(twin));
            while (x.count(7) > 0) {
                x.undo();
                twin.undo();
                same(what + ": what was saved before it", Given.sight(x), Given.sight(twin));
            }
            due(what + ": pushed out", twin.count(7), before == MOST_SAVED ? 1 : 0);
        }
    }

    static void throwsThis(String what, Class<? extends RuntimeException> due, Runnable call) {
        String got = "no exception";
        try {
            call.run();
        } catch (RuntimeException e) {
            got = e.getClass().getSimpleName();
        }
        asked++;
        if (!got.equals(due.getSimpleName())) {
            wrong++;
            System.out.println(test + what + " threw " + got + ", due is " + due.getSimpleName());
        }
    }

    private static void twins(String what, StuckRods x, StuckRods twin) {
        same(what + ": the rods", Given.sight(x), Given.sight(twin));
        due(what + ": the digest", x.digest(), twin.digest());
        due(what + ": saved states", x.count(7), twin.count(7));
        while (x.count(7) > 0 && twin.count(7) > 0) {
            due(what + ": undo", x.undo(), twin.undo());
            due(what + ": the digest of a saved state", x.digest(), twin.digest());
        }
        due(what + ": the buffer", x.clearBuffer(), twin.clearBuffer());
    }

    static int wrongSoFar() {
        return wrong;
    }

    static void end() {
        System.out.println(wrong == 0 ? "all " + asked + " answers are as due" : wrong + " of " + asked + " answers are not as due");
        if (wrong != 0) {
            System.exit(1);
        }
    }
}
