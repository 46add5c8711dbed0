import java.util.function.Consumer;

/** Abacuses that the tests begin with, and how they look. */
final class Given {
    /** Rods that are not there: the ones just outside, and the farthest. */
    static final int[] NO_RODS = {-1, 9, Integer.MIN_VALUE, Integer.MAX_VALUE};

    private Given() {
    }

    /** A new abacus that has saved so many states and shows 0, behind the given calls. */
    static StuckRods behind(int saved, Consumer<StuckRods> given) {
        StuckRods x = new StuckRods();
        for (int i = 1; i <= saved; i++) {
            x.move(3, 0, i == saved ? 0 : i % 6);
        }
        given.accept(x);
        return x;
    }

    static void nothing(StuckRods x) {
    }

    static void write(StuckRods x, String text) {
        for (int i = 0; i < text.length(); i++) {
            x.append(text.charAt(i));
        }
    }

    /** Lets the rod show as told, all of it stuck. */
    static void stickAt(StuckRods x, int rod, int fives, int ones) {
        x.move(rod, fives, ones);
        x.stick(rod, 3);
    }

    static StuckRods stuckAt(int rod, int fives, int ones) {
        StuckRods x = new StuckRods();
        stickAt(x, rod, fives, ones);
        return x;
    }

    /** An abacus that shows 0, and whose rod has a loan of n; no bead is stuck. */
    static StuckRods withLoan(int rod, int n) {
        StuckRods x = new StuckRods();
        borrow(x, rod, n);
        return x;
    }

    /** Gives the rod, which has no loan, one of n; the rod ahead of it shows 0 behind it, and the setting is 3. */
    static void borrow(StuckRods x, int rod, int n) {
        x.set(9);
        x.stick(rod, 3);
        for (int i = 0; i < n; i++) {
            x.move(rod - 1, 2, 5);
            x.add(rod - 1, 9);
        }
        for (int i = 0; i > n; i--) {
            x.move(rod - 1, 0, 0);
            x.less(rod - 1, 9);
        }
        x.move(rod - 1, 0, 0);
        x.stick(rod, 0);
        x.set(3);
    }

    /** All rods show 15. */
    static void fill(StuckRods x) {
        for (int r = 0; r < 9; r++) {
            x.move(r, 2, 5);
        }
    }

    /** What all rods show, from the rod 8 to the rod 0, with a blank between. */
    static String shown(StuckRods x) {
        StringBuilder text = new StringBuilder();
        for (int r = 8; r >= 0; r--) {
            text.append(x.rod(r, 2)).append(r == 0 ? "" : " ");
        }
        return text.toString();
    }

    /** All that undo brings back, as far as it can be seen. */
    static String sight(StuckRods x) {
        StringBuilder text = new StringBuilder("setting " + x.count(6));
        for (int r = 0; r < 9; r++) {
            text.append(", rod ").append(r).append(':');
            for (int what : new int[] {0, 1, 3, 4, 5, 6}) {
                text.append(' ').append(x.rod(r, what));
            }
        }
        return text.toString();
    }
}
