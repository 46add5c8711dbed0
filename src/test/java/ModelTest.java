import java.util.ArrayDeque;
import java.util.ArrayList;
import java.util.Comparator;
import java.util.List;

/**
 * Long runs of calls, each answer held against a second reading of the document that is written another way:
 * states are never changed but made anew, carries go by recursion, and texts are read by patterns.
 */
public final class ModelTest {
    private static final int RUNS = 1200;
    /** Nothing is promised behind these. */
    private static final int CALLS = 512;

    private record Rod(int fives, int ones, int stuck, int loan, int moved, int turned) {
        int shown() {
            return 5 * fives + ones;
        }

        int movesTo(Rod other) {
            return Math.abs(fives - other.fives) + Math.abs(ones - other.ones);
        }

        Rod withBeads(int newFives, int newOnes) {
            Rod next = new Rod(newFives, newOnes, stuck, loan, 0, turned);
            return new Rod(newFives, newOnes, stuck, loan, moved + movesTo(next), turned);
        }

        Rod withStuck(int mask) {
            return new Rod(fives, ones, mask, loan, moved, turned);
        }

        Rod withLoan(int newLoan, int newTurned) {
            return new Rod(fives, ones, stuck, newLoan, moved, newTurned);
        }

        boolean allows(int newFives, int newOnes) {
            return (stuck % 2 == 0 || newFives == fives) && (stuck < 2 || newOnes == ones);
        }

        /** The rod behind it, null if it cannot come to show the number. */
        Rod showing(int number) {
            List<Rod> ways = new ArrayList<>();
            for (int f = 0; f <= 2; f++) {
                for (int o = 0; o <= 5; o++) {
                    if (5 * f + o == number && allows(f, o)) {
                        ways.add(withBeads(f, o));
                    }
                }
            }
            ways.sort(Comparator.comparingInt((Rod way) -> way.moved).thenComparingInt(way -> -way.fives));
            return ways.isEmpty() ? null : ways.get(0);
        }
    }

    private record State(List<Rod> rods, int setting) {
        State with(int index, Rod rod) {
            List<Rod> next = new ArrayList<>(rods);
            next.set(index, rod);
            return new State(List.copyOf(next), setting);
        }

        State showing(int index, int number) {
            Rod next = rods.get(index).showing(number);
            return next == null ? null : with(index, next);
        }

        int shown(int index) {
            return rods.get(index).shown();
        }

        int loan(int index) {
            return rods.get(index).loan();
        }

        int moved() {
            return rods.stream().mapToInt(Rod::moved).sum();
        }

        State changed(int index, int n) {
            int sign = Integer.signum(n);
            State next = showing(index, shown(index) + n);
            if (next != null) {
                return next;
            }
            next = showing(index, shown(index) + n - 10 * sign);
            return next == null ? null : next.carried(index + 1, sign);
        }

        State carried(int index, int sign) {
            if (index > 8) {
                return null;
            }
            State next = showing(index, shown(index) + sign);
            if (next != null) {
                return next;
            }
            next = showing(index, shown(index) - 9 * sign);
            if (next != null) {
                return next.carried(index + 1, sign);
            }
            int loan = loan(index) + sign;
            boolean tooMuch = sign > 0 ? loan > setting : loan < -setting;
            return tooMuch ? null : with(index, rods.get(index).withLoan(loan, rods.get(index).turned() + 1));
        }

        State paid(int index) {
            State next = changed(index, loan(index));
            if (next == null) {
                return null;
            }
            Rod rod = next.rods.get(index);
            return next.with(index, rod.withLoan(rod.loan() - loan(index), rod.turned()));
        }

        State ordered(int index) {
            if (shown(index) < 10) {
                return null;
            }
            State next = showing(index, shown(index) - 10);
            return next == null ? null : next.carried(index + 1, 1);
        }

        int reach(int index) {
            int numbers = 0;
            for (int number = 0; number <= 15; number++) {
                numbers += showing(index, number) == null ? 0 : 1;
            }
            return numbers;
        }
    }

    /** A refusal, by the name of the exception that is due. */
    private static final class Refused extends Exception {
        private static final long serialVersionUID = 1L;

        Refused(String name) {
            super(name);
        }
    }

    private static final String INDEX = "IndexOutOfBoundsException";
    private static final String ARGUMENT = "IllegalArgumentException";
    private static final String STATE = "IllegalStateException";
    private static final String TERM = "[+-](0|[1-9][0-9]{0,5})";
    private static final String SUM = "(" + TERM + ")+";
    private static final String BEGINNING = "(" + TERM + ")*[+-]?";

    private State state;
    private final ArrayDeque<State> saved = new ArrayDeque<>();
    private String buffer = "";
    private int calls = 0;

    private ModelTest() {
        List<Rod> rods = new ArrayList<>();
        for (int r = 0; r < 9; r++) {
            rods.add(new Rod(0, 0, 0, 0, 0, 0));
        }
        state = new State(List.copyOf(rods), 3);
    }

    private static void index(int rod) throws Refused {
        demand(rod >= 0 && rod <= 8, INDEX);
    }

    private static void demand(boolean holds, String name) throws Refused {
        if (!holds) {
            throw new Refused(name);
        }
    }

    private int become(State next) throws Refused {
        demand(next != null, STATE);
        saved.addLast(state);
        if (saved.size() > 6) {
            saved.removeFirst();
        }
        int before = state.moved();
        state = next;
        return next.moved() - before;
    }

    private int tidied() throws Refused {
        State next = state;
        for (int r = 0; r < 9; r++) {
            State paid = next.paid(r);
            next = paid == null ? next : paid;
            State ordered = next.ordered(r);
            next = ordered == null ? next : ordered;
        }
        return become(next);
    }

    private int firstError() {
        int good = 0;
        while (good < buffer.length() && buffer.substring(0, good + 1).matches(BEGINNING)) {
            good++;
        }
        return good;
    }

    private int reckoned() throws Refused {
        demand(buffer.matches(SUM), ARGUMENT);
        State next = state;
        int done = 0;
        terms:
        for (String term : buffer.split("(?=[+-])")) {
            String digits = new StringBuilder(term.substring(1)).reverse().toString();
            for (int r = 0; r < digits.length(); r++) {
                int n = Integer.parseInt(term.charAt(0) + digits.substring(r, r + 1));
                State changed = n == 0 ? next : next.changed(r, n);
                if (changed == null) {
                    break terms;
                }
                next = changed;
                done++;
            }
        }
        become(next);
        buffer = "";
        return done;
    }

    private int undone() throws Refused {
        demand(!saved.isEmpty(), STATE);
        state = saved.removeLast();
        return saved.size();
    }

    private int rod(int r, int what) {
        Rod rod = state.rods().get(r);
        int[] numbers = {rod.fives(), rod.ones(), rod.shown(), rod.loan() + 100, rod.stuck(), rod.moved(), rod.turned(), state.reach(r)};
        return numbers[what];
    }

    private long whole() {
        long whole = 0;
        for (int r = 8; r >= 0; r--) {
            whole = 10 * whole + state.shown(r) + state.loan(r);
        }
        return whole;
    }

    private int count(int what) {
        int loans = state.rods().stream().mapToInt(Rod::loan).sum();
        int shown = state.rods().stream().mapToInt(Rod::shown).sum();
        switch (what) {
            case 0: return state.moved();
            case 1: return (int) state.rods().stream().filter(rod -> rod.loan() != 0).count();
            case 2: return loans + 100;
            case 3: return (int) (((whole() % 9) + 9) % 9) == ((shown + loans + 90) % 9) ? (shown + loans + 90) % 9 : -99;
            case 4: return (int) state.rods().stream().filter(rod -> rod.shown() >= 10).count();
            case 5: return (int) state.rods().stream().filter(rod -> rod.stuck() > 0).count();
            case 6: return state.setting();
            default: return saved.size();
        }
    }

    private int movesTo(int r, int number) {
        State next = state.showing(r, number);
        return next == null ? -1 : next.moved() - state.moved();
    }

    private int ifChanged(int r, int n) {
        State next = n == 0 ? state : state.changed(r, n);
        return next == null ? -1 : next.moved() - state.moved();
    }

    private int toShow(int number) {
        String digits = String.format("%09d", number);
        int total = 0;
        for (int r = 0; r < 9; r++) {
            int needed = movesTo(r, digits.charAt(8 - r) - '0');
            if (needed < 0) {
                return -1;
            }
            total += needed;
        }
        return total;
    }

    private int cheapestLoan() {
        int best = -1;
        int fewest = Integer.MAX_VALUE;
        for (int r = 0; r < 9; r++) {
            State paid = state.loan(r) == 0 ? null : state.paid(r);
            if (paid != null && paid.moved() - state.moved() < fewest) {
                best = r;
                fewest = paid.moved() - state.moved();
            }
        }
        return best;
    }

    private double looseness() {
        int sum = 0;
        for (int r = 0; r < 9; r++) {
            sum += state.reach(r);
        }
        return ((double) sum) / 144;
    }

    private long digest() {
        List<Long> values = new ArrayList<>();
        for (int what = 0; what < 8; what++) {
            values.add((long) count(what));
        }
        values.add(whole());
        for (int r = 0; r < 9; r++) {
            for (int what = 0; what < 8; what++) {
                values.add((long) rod(r, what));
            }
            for (int show : new int[] {0, 7, 15}) {
                values.add((long) movesTo(r, show));
            }
            for (int n : new int[] {1, 6, -1, -6}) {
                values.add((long) ifChanged(r, n));
            }
        }
        values.add((long) toShow(0));
        values.add((long) toShow(123456789));
        values.add((long) cheapestLoan());
        values.add(Double.doubleToLongBits(looseness()));
        values.add((long) buffer.length());
        buffer.chars().forEach(code -> values.add((long) code));
        long hash = 3299;
        for (long value : values) {
            hash = 31 * hash + value;
        }
        return hash;
    }

    /** One call of the face, by its number, with three arguments of which it takes those that it has. */
    private long expected(int call, int a, int b, int c) throws Refused {
        switch (call) {
            case 0:
                index(a);
                demand(b >= 0 && b <= 2 && c >= 0 && c <= 5, ARGUMENT);
                demand(state.rods().get(a).allows(b, c), STATE);
                return become(state.with(a, state.rods().get(a).withBeads(b, c)));
            case 1: {
                index(a);
                demand(b >= 0 && b <= 3, ARGUMENT);
                int previous = rod(a, 4);
                become(state.with(a, state.rods().get(a).withStuck(b)));
                return previous;
            }
            case 2: {
                demand(a >= 0 && a <= 9, ARGUMENT);
                int previous = state.setting();
                become(new State(state.rods(), a));
                return previous;
            }
            case 3:
            case 4:
                index(a);
                demand(b >= 1 && b <= 9, ARGUMENT);
                return become(state.changed(a, call == 3 ? b : -b));
            case 5:
                index(a);
                return become(state.paid(a));
            case 6:
                return tidied();
            case 7:
                demand(a >= 33 && a <= 126, ARGUMENT);
                demand(buffer.length() < 60, STATE);
                buffer += (char) a;
                return buffer.length();
            case 8: {
                int previous = buffer.length();
                buffer = "";
                return previous;
            }
            case 9:
                return firstError();
            case 10:
                return reckoned();
            case 11:
                return undone();
            case 12:
                index(a);
                demand(b >= 0 && b <= 7, ARGUMENT);
                return rod(a, b);
            case 13:
                return whole();
            case 14:
                demand(a >= 0 && a <= 7, ARGUMENT);
                return count(a);
            case 15:
                index(a);
                demand(b >= 0 && b <= 15, ARGUMENT);
                return movesTo(a, b);
            case 16:
                index(a);
                demand(b >= -9 && b <= 9, ARGUMENT);
                return ifChanged(a, b);
            case 17:
                demand(a >= 0 && a <= 999999999, ARGUMENT);
                return toShow(a);
            case 18:
                return cheapestLoan();
            case 19:
                return Double.doubleToLongBits(looseness());
            default:
                return digest();
        }
    }

    private static long answered(StuckRods x, int call, int a, int b, int c) {
        switch (call) {
            case 0: return x.move(a, b, c);
            case 1: return x.stick(a, b);
            case 2: return x.set(a);
            case 3: return x.add(a, b);
            case 4: return x.less(a, b);
            case 5: return x.pay(a);
            case 6: return x.tidy();
            case 7: return x.append(a);
            case 8: return x.clearBuffer();
            case 9: return x.firstError();
            case 10: return x.reckon();
            case 11: return x.undo();
            case 12: return x.rod(a, b);
            case 13: return x.whole();
            case 14: return x.count(a);
            case 15: return x.moves(a, b);
            case 16: return x.ifAdded(a, b);
            case 17: return x.toShow(a);
            case 18: return x.cheapestLoan();
            case 19: return Double.doubleToLongBits(x.looseness());
            default: return x.digest();
        }
    }

    private static final String[] NAMES = {
        "move", "stick", "set", "add", "less", "pay", "tidy", "append", "clearBuffer", "firstError", "reckon", "undo",
        "rod", "whole", "count", "moves", "ifAdded", "toShow", "cheapestLoan", "looseness", "digest"};

    /** The same numbers in every run of the test: a row of its own, no random source. */
    private static final class Numbers {
        private long seed;

        Numbers(long seed) {
            this.seed = seed * 0x9E3779B97F4A7C15L + 1;
        }

        int below(int bound) {
            seed = seed * 6364136223846793005L + 1442695040888963407L;
            return (int) ((seed >>> 33) % bound);
        }

        int between(int lowest, int highest) {
            return lowest + below(highest - lowest + 1);
        }

        /** Mostly in range, now and then just outside of it or far away. */
        int around(int lowest, int highest) {
            int kind = below(40);
            if (kind == 0) {
                return lowest - 1;
            }
            if (kind == 1) {
                return highest + 1;
            }
            if (kind == 2) {
                return below(2) == 0 ? Integer.MIN_VALUE : Integer.MAX_VALUE;
            }
            return between(lowest, highest);
        }
    }

    private void step(int run, StuckRods x, int call, int a, int b, int c) {
        if (calls + 2 > CALLS) {
            return;
        }
        calls++;
        String what = "run " + run + ": " + NAMES[call] + "(" + a + ", " + b + ", " + c + ")";
        String dueThrow = "nothing";
        long dueAnswer = 0;
        try {
            dueAnswer = expected(call, a, b, c);
        } catch (Refused e) {
            dueThrow = e.getMessage();
        }
        String gotThrow = "nothing";
        long gotAnswer = 0;
        try {
            gotAnswer = answered(x, call, a, b, c);
        } catch (RuntimeException e) {
            gotThrow = e.getClass().getSimpleName();
        }
        Check.holds(what + " throws " + dueThrow + " (it threw " + gotThrow + ")", gotThrow.equals(dueThrow));
        Check.due(what, gotAnswer, dueAnswer);
        if (call != 7) {
            calls++;
            Check.due(what + " and digest", x.digest(), digest());
        }
    }

    /** Each run has a bent: some stick a lot, some hardly ever; some only write texts. */
    private void run(int run) {
        Numbers numbers = new Numbers(run);
        StuckRods x = new StuckRods();
        int stickiness = run % 5;
        int wordiness = run % 3;
        while (calls + 2 <= CALLS && Check.wrongSoFar() == 0) {
            int kind = numbers.below(100);
            int rod = numbers.around(0, 8);
            if (kind < 12) {
                step(run, x, 0, rod, numbers.around(0, 2), numbers.around(0, 5));
            } else if (kind < 14 + 4 * stickiness) {
                step(run, x, 1, rod, numbers.around(0, 3), 0);
            } else if (kind < 33) {
                step(run, x, 2, numbers.around(0, 9), 0, 0);
            } else if (kind < 50) {
                step(run, x, 3, rod, numbers.around(1, 9), 0);
            } else if (kind < 67) {
                step(run, x, 4, rod, numbers.around(1, 9), 0);
            } else if (kind < 73) {
                step(run, x, 5, rod, 0, 0);
            } else if (kind < 75) {
                step(run, x, 6, 0, 0, 0);
            } else if (kind < 77 + 3 * wordiness) {
                writeText(run, x, numbers);
            } else if (kind < 87) {
                step(run, x, 11, 0, 0, 0);
            } else {
                look(run, x, numbers);
            }
        }
    }

    private void writeText(int run, StuckRods x, Numbers numbers) {
        if (numbers.below(3) > 0) {
            step(run, x, 8, 0, 0, 0);
        }
        int terms = numbers.between(0, 4) + (numbers.below(12) == 0 ? 12 : 0);
        for (int t = 0; t < terms; t++) {
            step(run, x, 7, numbers.below(2) == 0 ? '+' : '-', 0, 0);
            int digits = numbers.between(1, numbers.below(10) == 0 ? 7 : 6);
            for (int d = 0; d < digits; d++) {
                boolean zero = numbers.below(10) == 0;
                step(run, x, 7, zero && (d > 0 || digits == 1 || numbers.below(3) == 0) ? '0' : numbers.between('1', '9'), 0, 0);
            }
            if (numbers.below(15) == 0) {
                step(run, x, 7, numbers.around(33, 126), 0, 0);
            }
        }
        step(run, x, 9, 0, 0, 0);
        step(run, x, 10, 0, 0, 0);
    }

    private void look(int run, StuckRods x, Numbers numbers) {
        step(run, x, 12, numbers.around(0, 8), numbers.around(0, 7), 0);
        step(run, x, 13, 0, 0, 0);
        step(run, x, 14, numbers.around(0, 7), 0, 0);
        step(run, x, 15, numbers.around(0, 8), numbers.around(0, 15), 0);
        step(run, x, 16, numbers.around(0, 8), numbers.around(-9, 9), 0);
        step(run, x, 17, numbers.around(0, 999999999), 0, 0);
        step(run, x, 18, 0, 0, 0);
        step(run, x, 19, 0, 0, 0);
        step(run, x, 20, 0, 0, 0);
    }

    public static void main(String[] args) {
        for (int run = 0; run < RUNS; run++) {
            new ModelTest().run(run);
        }
        Check.end();
    }
}
