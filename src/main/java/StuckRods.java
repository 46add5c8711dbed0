/** Bead abacuses with stuck rods and borrowed carries: ../shared/DOC.md says what each call does. */
public final class StuckRods {
    public static final int NONE = -1;

    private static final int RODS = 9;
    private static final int MOST_FIVES = 2;
    private static final int MOST_ONES = 5;
    private static final int MOST_SHOWN = 15;
    private static final int STUCK_FIVES = 1;
    private static final int STUCK_ONES = 2;
    private static final int MOST_STUCK = STUCK_FIVES + STUCK_ONES;
    private static final int MOST_LOAN = 9;
    private static final int FIRST_SETTING = 3;
    private static final int MOST_ADDED = 9;
    private static final int MOST_SAVED = 6;
    private static final int MOST_CODES = 60;
    private static final int LOWEST_CODE = 33;
    private static final int HIGHEST_CODE = 126;
    private static final int MOST_DIGITS = 6;
    private static final int MOST_NUMBER = 999999999;
    private static final int LAST_WHAT = 7;
    private static final int LOAN_SHIFT = 100;
    private static final int DIGEST_START = 3299;

    private final Board board;
    private final History history;
    private final SumText text;

    public StuckRods() {
        board = new Board();
        history = new History();
        text = new SumText();
    }

    // ---- beads

    public int move(int rod, int fives, int ones)
            throws IndexOutOfBoundsException, IllegalArgumentException, IllegalStateException {
        checkRod(rod);
        checkRange(fives, 0, MOST_FIVES);
        checkRange(ones, 0, MOST_ONES);
        int needed = board.movesBy(rod, fives, ones);
        if (needed == NONE) {
            throw new IllegalStateException("stuck beads would change");
        }
        history.keep(board);
        board.place(rod, fives, ones, needed);
        return needed;
    }

    public int stick(int rod, int what) throws IndexOutOfBoundsException, IllegalArgumentException {
        checkRod(rod);
        checkRange(what, 0, MOST_STUCK);
        history.keep(board);
        int previous = board.stuck[rod];
        board.stuck[rod] = what;
        return previous;
    }

    public int set(int value) throws IllegalArgumentException {
        checkRange(value, 0, MOST_LOAN);
        history.keep(board);
        int previous = board.setting;
        board.setting = value;
        return previous;
    }

    // ---- adding

    public int add(int rod, int n)
            throws IndexOutOfBoundsException, IllegalArgumentException, IllegalStateException {
        checkRod(rod);
        checkRange(n, 1, MOST_ADDED);
        return changeOrThrow(rod, n);
    }

    public int less(int rod, int n)
            throws IndexOutOfBoundsException, IllegalArgumentException, IllegalStateException {
        checkRod(rod);
        checkRange(n, 1, MOST_ADDED);
        return changeOrThrow(rod, -n);
    }

    public int pay(int rod) throws IndexOutOfBoundsException, IllegalStateException {
        checkRod(rod);
        if (board.change(rod, board.loan[rod], false) == NONE) {
            throw new IllegalStateException("the loan cannot be paid back");
        }
        history.keep(board);
        return board.payIfPossible(rod);
    }

    public int tidy() {
        history.keep(board);
        int total = 0;
        for (int r = 0; r < RODS; r++) {
            total += board.payIfPossible(r);
            total += board.orderIfPossible(r);
        }
        return total;
    }

    // ---- texts

    public int append(int code) throws IllegalArgumentException, IllegalStateException {
        checkRange(code, LOWEST_CODE, HIGHEST_CODE);
        if (text.length >= MOST_CODES) {
            throw new IllegalStateException("the buffer is full");
        }
        text.codes[text.length] = code;
        text.length++;
        return text.length;
    }

    public int clearBuffer() {
        int previous = text.length;
        text.length = 0;
        return previous;
    }

    public int firstError() {
        return text.firstWrong();
    }

    public int reckon() throws IllegalArgumentException {
        if (!text.isCompleteSum()) {
            throw new IllegalArgumentException("the buffer is not a complete sum");
        }
        history.keep(board);
        int done = 0;
        for (int i = 0; i < text.length && i < MOST_CODES; i++) {
            if (isSign(text.codes[i])) {
                int digits = text.digitsBehind(i);
                int doneHere = reckonTerm(i, digits);
                done += doneHere;
                if (doneHere < digits) {
                    break;
                }
            }
        }
        text.length = 0;
        return done;
    }

    public int undo() throws IllegalStateException {
        if (history.size == 0) {
            throw new IllegalStateException("no state is saved");
        }
        history.restore(board);
        return history.size;
    }

    // ---- looks; nothing is changed

    public int rod(int rod, int what) throws IndexOutOfBoundsException, IllegalArgumentException {
        checkRod(rod);
        checkRange(what, 0, LAST_WHAT);
        switch (what) {
            case 0:
                return board.fives[rod];
            case 1:
                return board.ones[rod];
            case 2:
                return board.shown(rod);
            case 3:
                return board.loan[rod] + LOAN_SHIFT;
            case 4:
                return board.stuck[rod];
            case 5:
                return board.moved[rod];
            case 6:
                return board.borrowed[rod];
            default:
                return board.reach(rod);
        }
    }

    public long whole() {
        long sum = 0;
        long power = 1;
        for (int r = 0; r < RODS; r++) {
            sum += (board.shown(r) + board.loan[r]) * power;
            power *= 10;
        }
        return sum;
    }

    public int count(int what) throws IllegalArgumentException {
        checkRange(what, 0, LAST_WHAT);
        switch (what) {
            case 0:
                return board.allMoved();
            case 1:
                return board.rodsWithLoan();
            case 2:
                return board.allLoans() + LOAN_SHIFT;
            case 3:
                return Math.floorMod(board.allShown() + board.allLoans(), 9);
            case 4:
                return board.rodsOutOfOrder();
            case 5:
                return board.rodsWithStuck();
            case 6:
                return board.setting;
            default:
                return history.size;
        }
    }

    // ---- what would be; nothing is changed

    public int moves(int rod, int show) throws IndexOutOfBoundsException, IllegalArgumentException {
        checkRod(rod);
        checkRange(show, 0, MOST_SHOWN);
        return board.turn(rod, show, false);
    }

    public int ifAdded(int rod, int n) throws IndexOutOfBoundsException, IllegalArgumentException {
        checkRod(rod);
        checkRange(n, -MOST_ADDED, MOST_ADDED);
        return board.change(rod, n, false);
    }

    public int toShow(int number) throws IllegalArgumentException {
        checkRange(number, 0, MOST_NUMBER);
        int total = 0;
        int rest = number;
        for (int r = 0; r < RODS; r++) {
            int needed = board.turn(r, rest % 10, false);
            if (needed == NONE) {
                return NONE;
            }
            total += needed;
            rest /= 10;
        }
        return total;
    }

    public int cheapestLoan() {
        int cheapest = NONE;
        int fewest = 0;
        for (int r = 0; r < RODS; r++) {
            if (board.loan[r] != 0) {
                int needed = board.change(r, board.loan[r], false);
                if (needed != NONE && (cheapest == NONE || needed < fewest)) {
                    cheapest = r;
                    fewest = needed;
                }
            }
        }
        return cheapest;
    }

    public double looseness() {
        int sum = 0;
        for (int r = 0; r < RODS; r++) {
            sum += board.reach(r);
        }
        return (double) sum / 144.0;
    }

    public long digest() {
        long hash = DIGEST_START;
        for (int what = 0; what <= LAST_WHAT; what++) {
            hash = mixed(hash, count(what));
        }
        hash = mixed(hash, whole());
        for (int r = 0; r < RODS; r++) {
            for (int what = 0; what <= LAST_WHAT; what++) {
                hash = mixed(hash, rod(r, what));
            }
            hash = mixed(hash, moves(r, 0));
            hash = mixed(hash, moves(r, 7));
            hash = mixed(hash, moves(r, 15));
            hash = mixed(hash, ifAdded(r, 1));
            hash = mixed(hash, ifAdded(r, 6));
            hash = mixed(hash, ifAdded(r, -1));
            hash = mixed(hash, ifAdded(r, -6));
        }
        hash = mixed(hash, toShow(0));
        hash = mixed(hash, toShow(123456789));
        hash = mixed(hash, cheapestLoan());
        hash = mixed(hash, bitsOf(looseness()));
        hash = mixed(hash, text.length);
        for (int i = 0; i < text.length && i < MOST_CODES; i++) {
            hash = mixed(hash, text.codes[i]);
        }
        return hash;
    }

    private static void checkRod(int rod) {
        if (rod < 0 || rod >= RODS) {
            throw new IndexOutOfBoundsException("there is no such rod");
        }
    }

    private static void checkRange(int value, int lowest, int highest) {
        if (value < lowest || value > highest) {
            throw new IllegalArgumentException("out of range");
        }
    }

    private int changeOrThrow(int rod, int n) {
        // The trial comes first, so that what cannot be done neither changes nor saves anything.
        if (board.change(rod, n, false) == NONE) {
            throw new IllegalStateException("it cannot be done");
        }
        history.keep(board);
        return board.change(rod, n, true);
    }

    /** Does the digits behind the sign, the last one first; returns how many are done. */
    private int reckonTerm(int sign, int digits) {
        int factor = text.codes[sign] == '-' ? -1 : 1;
        for (int rod = 0; rod < digits && rod < RODS; rod++) {
            int n = factor * (text.codes[sign + digits - rod] - '0');
            if (board.change(rod, n, false) == NONE) {
                return rod;
            }
            board.change(rod, n, true);
        }
        return digits;
    }

    private static boolean isSign(int code) {
        return code == '+' || code == '-';
    }

    private static boolean isDigit(int code) {
        return code >= '0' && code <= '9';
    }

    private static long mixed(long hash, long value) {
        return 31 * hash + value;
    }

    /**
     * The bits of a share above 0 and up to 1, by hand: LANGUAGE.md leaves Double.doubleToLongBits out.
     * Doubling is exact, so nothing is lost on the way.
     */
    private static long bitsOf(double share) {
        double scaled = share;
        long exponent = 1023;
        while (scaled < 1.0 && exponent > 0) {
            scaled *= 2.0;
            exponent--;
        }
        return (exponent << 52) + (long) ((scaled - 1.0) * (double) (1L << 52));
    }

    /** All that undo brings back: the rods, the setting and what is counted. */
    private static final class Board {
        final int[] fives = new int[RODS];
        final int[] ones = new int[RODS];
        final int[] stuck = new int[RODS];
        final int[] loan = new int[RODS];
        final int[] moved = new int[RODS];
        final int[] borrowed = new int[RODS];
        int setting = FIRST_SETTING;

        Board() {
        }

        void copyFrom(Board other) {
            for (int r = 0; r < RODS; r++) {
                fives[r] = other.fives[r];
                ones[r] = other.ones[r];
                stuck[r] = other.stuck[r];
                loan[r] = other.loan[r];
                moved[r] = other.moved[r];
                borrowed[r] = other.borrowed[r];
            }
            setting = other.setting;
        }

        int shown(int rod) {
            return 5 * fives[rod] + ones[rod];
        }

        /** How many moves these fives and ones take, NONE if they are no beads of the rod or stuck ones would change. */
        int movesBy(int rod, int newFives, int newOnes) {
            if (newOnes < 0 || newOnes > MOST_ONES) {
                return NONE;
            }
            int fivesMoved = Math.abs(newFives - fives[rod]);
            int onesMoved = Math.abs(newOnes - ones[rod]);
            if (fivesMoved > 0 && (stuck[rod] & STUCK_FIVES) != 0) {
                return NONE;
            }
            if (onesMoved > 0 && (stuck[rod] & STUCK_ONES) != 0) {
                return NONE;
            }
            return fivesMoved + onesMoved;
        }

        void place(int rod, int newFives, int newOnes, int needed) {
            fives[rod] = newFives;
            ones[rod] = newOnes;
            moved[rod] += needed;
        }

        /** Lets the rod come to show the number, or only tries it; how many moves, NONE if it cannot. */
        int turn(int rod, int number, boolean doIt) {
            int fewest = NONE;
            int best = 0;
            // From the most fives down, so that of ways with as many moves the one with the most fives stays.
            for (int f = MOST_FIVES; f >= 0; f--) {
                int needed = movesBy(rod, f, number - 5 * f);
                if (needed != NONE && (fewest == NONE || needed < fewest)) {
                    fewest = needed;
                    best = f;
                }
            }
            if (doIt && fewest != NONE) {
                place(rod, best, number - 5 * best, fewest);
            }
            return fewest;
        }

        /**
         * Adds n to the rod, or takes its opposite away; or only tries it. How many moves, NONE if it cannot be done.
         * To be done it must have been tried, for a carry that fails comes behind beads that have moved.
         */
        int change(int rod, int n, boolean doIt) {
            int sign = n < 0 ? -1 : 1;
            int direct = turn(rod, shown(rod) + n, doIt);
            if (direct != NONE) {
                return direct;
            }
            return turnAndCarry(rod, shown(rod) + n - 10 * sign, sign, doIt);
        }

        /** Lets the rod come to show the number, with a carry to the next rod; or only tries it, as change does. */
        int turnAndCarry(int rod, int number, int sign, boolean doIt) {
            int total = turn(rod, number, doIt);
            if (total == NONE) {
                return NONE;
            }
            for (int r = rod + 1; r < RODS; r++) {
                int needed = turn(r, shown(r) + sign, doIt);
                if (needed != NONE) {
                    return total + needed;
                }
                needed = turn(r, shown(r) - 9 * sign, doIt);
                if (needed == NONE) {
                    return borrow(r, sign, doIt) ? total : NONE;
                }
                total += needed;
            }
            return NONE;
        }

        boolean borrow(int rod, int sign, boolean doIt) {
            int next = loan[rod] + sign;
            // Only the side to which the loan goes is bounded: a loan from a greater setting may still come down.
            if (next * sign > setting) {
                return false;
            }
            if (doIt) {
                loan[rod] = next;
                borrowed[rod]++;
            }
            return true;
        }

        /** How many moves it took, 0 if it could not be done. */
        int payIfPossible(int rod) {
            if (change(rod, loan[rod], false) == NONE) {
                return 0;
            }
            int needed = change(rod, loan[rod], true);
            loan[rod] = 0;
            return needed;
        }

        /** How many moves it took, 0 if it could not be done. */
        int orderIfPossible(int rod) {
            int number = shown(rod) - 10;
            if (number < 0 || turnAndCarry(rod, number, 1, false) == NONE) {
                return 0;
            }
            return turnAndCarry(rod, number, 1, true);
        }

        /** How many numbers the rod can come to show. */
        int reach(int rod) {
            int numbers = 0;
            for (int number = 0; number <= MOST_SHOWN; number++) {
                if (turn(rod, number, false) != NONE) {
                    numbers++;
                }
            }
            return numbers;
        }

        int allMoved() {
            int sum = 0;
            for (int r = 0; r < RODS; r++) {
                sum += moved[r];
            }
            return sum;
        }

        int allLoans() {
            int sum = 0;
            for (int r = 0; r < RODS; r++) {
                sum += loan[r];
            }
            return sum;
        }

        int allShown() {
            int sum = 0;
            for (int r = 0; r < RODS; r++) {
                sum += shown(r);
            }
            return sum;
        }

        int rodsWithLoan() {
            int rods = 0;
            for (int r = 0; r < RODS; r++) {
                if (loan[r] != 0) {
                    rods++;
                }
            }
            return rods;
        }

        int rodsOutOfOrder() {
            int rods = 0;
            for (int r = 0; r < RODS; r++) {
                if (shown(r) >= 10) {
                    rods++;
                }
            }
            return rods;
        }

        int rodsWithStuck() {
            int rods = 0;
            for (int r = 0; r < RODS; r++) {
                if (stuck[r] != 0) {
                    rods++;
                }
            }
            return rods;
        }
    }

    /** The saved states, a ring of boards that are made once and used again. */
    private static final class History {
        final Board[] slots = new Board[MOST_SAVED];
        int oldest = 0;
        int size = 0;

        History() {
            for (int i = 0; i < MOST_SAVED; i++) {
                slots[i] = new Board();
            }
        }

        void keep(Board board) {
            if (size == MOST_SAVED) {
                oldest = (oldest + 1) % MOST_SAVED;
                size--;
            }
            slots[(oldest + size) % MOST_SAVED].copyFrom(board);
            size++;
        }

        void restore(Board board) {
            if (size > 0) {
                size--;
                board.copyFrom(slots[(oldest + size) % MOST_SAVED]);
            }
        }
    }

    /** The buffer, read as a sum. */
    private static final class SumText {
        final int[] codes = new int[MOST_CODES];
        int length = 0;

        SumText() {
        }

        /** The index of the first syntax error, the length if there is none. */
        int firstWrong() {
            // How many more digits are allowed: none ahead of the first sign, and none behind a leading zero.
            int room = 0;
            for (int i = 0; i < length && i < MOST_CODES; i++) {
                boolean numberBegins = i > 0 && isSign(codes[i - 1]);
                if (isSign(codes[i]) && !numberBegins) {
                    room = MOST_DIGITS;
                } else if (isDigit(codes[i]) && room > 0) {
                    room = numberBegins && codes[i] == '0' ? 0 : room - 1;
                } else {
                    return i;
                }
            }
            return length;
        }

        boolean isCompleteSum() {
            if (length < 1 || length > MOST_CODES) {
                return false;
            }
            return firstWrong() == length && isDigit(codes[length - 1]);
        }

        /** How many digits stand right behind the sign. */
        int digitsBehind(int sign) {
            int digits = 0;
            for (int i = sign + 1; i < length && i < MOST_CODES && isDigit(codes[i]); i++) {
                digits++;
            }
            return digits;
        }
    }
}
