/** What the tests say with: answers that are due, exceptions that are due, and the end with its exit code. */
final class Check {
    interface Call {
        long answer();
    }

    private static int asked = 0;
    private static int wrong = 0;

    private Check() {
    }

    static void due(String what, long got, long want) {
        asked++;
        if (got != want) {
            wrong++;
            System.out.println(what + " answered " + got + ", due is " + want);
        }
    }

    static void holds(String what, boolean holds) {
        asked++;
        if (!holds) {
            wrong++;
            System.out.println(what + " does not hold");
        }
    }

    /** The call throws this very class, and neither the state nor what is saved is another one behind it. */
    static void refuses(String what, StuckRods x, Class<? extends RuntimeException> due, Call call) {
        long before = x.digest();
        int saved = x.count(7);
        String got = "no exception";
        try {
            call.answer();
        } catch (RuntimeException e) {
            got = e.getClass().getSimpleName();
        }
        asked++;
        if (!got.equals(due.getSimpleName())) {
            wrong++;
            System.out.println(what + " threw " + got + ", due is " + due.getSimpleName());
        }
        due(what + ": the saved states behind it", x.count(7), saved);
        due(what + ": the digest behind it", x.digest(), before);
    }

    static int wrongSoFar() {
        return wrong;
    }

    static void end() {
        System.out.println(wrong == 0 ? "all " + asked + " answers are as due" : wrong + " of " + asked + " answers are not as due");
        if (wrong != 0) {
            System.exit(1);
        }
    }
}
