import java.util.function.Consumer;

/** A test for each boundary case that the document names: the terms of adding, promises 5 to 8. */
public final class AddingBoundaryTest {
    private static final int[] NO_NUMBERS = {0, 10, -1, Integer.MIN_VALUE, Integer.MAX_VALUE};

    private AddingBoundaryTest() {
    }

    private static void nothingShownIsLost(String what, StuckRods x, String shown, int loans) {
        Check.shows(what, x, shown);
        Check.due(what + ": the sum of the loans", x.count(2), 100 + loans);
    }

    // ---- Terms, Adding: the rod itself

    /** Every way of beads, every mask, every number: the rod 4, with a rod behind it that takes every carry. */
    static void termsToAddIsDirectOrWithACarryOrCannotBeDone() {
        for (int fives = 0; fives <= 2; fives++) {
            for (int ones = 0; ones <= 5; ones++) {
                for (int stuck = 0; stuck <= 3; stuck++) {
                    for (int n = 1; n <= 9; n++) {
                        changesAsTold(fives, ones, stuck, n, 1);
                        changesAsTold(fives, ones, stuck, n, -1);
                    }
                }
            }
        }
    }

    private static void changesAsTold(int fives, int ones, int stuck, int n, int sign) {
        StuckRods x = new StuckRods();
        x.move(5, 1, 1);
        x.move(4, fives, ones);
        x.stick(4, stuck);
        int before = 5 * fives + ones;
        int direct = before + sign * n;
        int carried = direct - sign * 10;
        String what = (sign > 0 ? "add " : "less ") + n + " at " + fives + " and " + ones + ", stuck " + stuck;
        int toDirect = direct < 0 || direct > 15 ? -1 : x.moves(4, direct);
        int toCarried = carried < 0 || carried > 15 ? -1 : x.moves(4, carried);
        Check.due(what + ": ifAdded", x.ifAdded(4, sign * n), toDirect >= 0 ? toDirect : toCarried >= 0 ? toCarried + 1 : -1);
        if (toDirect < 0 && toCarried < 0) {
            Check.throwsThis(what, Check.STATE, () -> change(x, 4, sign * n));
            nothingShownIsLost(what, x, "0 0 0 6 " + before + " 0 0 0 0", 0);
        } else if (toDirect >= 0) {
            Check.due(what, change(x, 4, sign * n), toDirect);
            nothingShownIsLost(what, x, "0 0 0 6 " + direct + " 0 0 0 0", 0);
        } else {
            Check.due(what, change(x, 4, sign * n), toCarried + 1);
            nothingShownIsLost(what, x, "0 0 0 " + (6 + sign) + " " + carried + " 0 0 0 0", 0);
        }
    }

    private static int change(StuckRods x, int rod, int n) {
        return n > 0 ? x.add(rod, n) : x.less(rod, -n);
    }

    static void termsToAddUpTo15NoCarry() {
        StuckRods x = new StuckRods();
        x.move(0, 1, 1);
        Check.due("6 and 9", x.add(0, 9), 1 + 4);
        nothingShownIsLost("15 without a carry", x, "0 0 0 0 0 0 0 0 15", 0);
        StuckRods y = new StuckRods();
        y.move(0, 2, 4);
        Check.due("14 and 1", y.add(0, 1), 1);
        nothingShownIsLost("15 without a carry", y, "0 0 0 0 0 0 0 0 15", 0);
    }

    static void termsToAddAbove15WithACarry() {
        StuckRods x = new StuckRods();
        x.move(0, 1, 2);
        Check.due("7 and 9", x.add(0, 9), 1 + 1);
        nothingShownIsLost("16 as 6 with a carry", x, "0 0 0 0 0 0 0 1 6", 0);
    }

    static void termsToTakeAwayDownTo0NoCarry() {
        StuckRods x = new StuckRods();
        x.move(0, 1, 4);
        Check.due("9 less 9", x.less(0, 9), 5);
        nothingShownIsLost("0 without a carry", x, "0 0 0 0 0 0 0 0 0", 0);
    }

    static void termsToTakeAwayBelow0WithACarry() {
        StuckRods x = new StuckRods();
        x.move(0, 1, 3);
        x.move(1, 0, 1);
        Check.due("8 less 9", x.less(0, 9), 1 + 1);
        nothingShownIsLost("-1 as 9 with a carry of -1", x, "0 0 0 0 0 0 0 0 9", 0);
    }

    static void termsTheRodItselfDoesNotBorrow() {
        for (int mask = 2; mask <= 3; mask++) {
            int stuck = mask;
            Consumer<StuckRods> given = x -> {
                x.move(4, 1, 2);
                x.stick(4, stuck);
            };
            Check.refuses("add to stuck ones", given, Check.STATE, x -> x.add(4, 1));
            Check.refuses("less from stuck ones", given, Check.STATE, x -> x.less(4, 1));
        }
        Check.refuses("add 1 to 5 with stuck fives: neither 6 nor -4", x -> {
            x.move(4, 0, 5);
            x.stick(4, 1);
        }, Check.STATE, x -> x.add(4, 1));
        Check.refuses("less 1 from 10 with stuck fives: neither 9 nor 19", x -> {
            x.move(4, 2, 0);
            x.stick(4, 1);
        }, Check.STATE, x -> x.less(4, 1));
    }

    static void termsStuckOnesTakeFivesAlone() {
        StuckRods x = new StuckRods();
        x.move(0, 0, 3);
        x.stick(0, 2);
        Check.due("3 and 5", x.add(0, 5), 1);
        Check.due("8 and 5", x.add(0, 5), 1);
        Check.due("13 and 5: 8 with a carry", x.add(0, 5), 1 + 1);
        nothingShownIsLost("13 and 5", x, "0 0 0 0 0 0 0 1 8", 0);
        Check.due("8 less 5", x.less(0, 5), 1);
        Check.due("3 less 5: 8 with a carry of -1", x.less(0, 5), 1 + 1);
        nothingShownIsLost("3 less 5", x, "0 0 0 0 0 0 0 0 8", 0);
    }

    // ---- Terms, Adding: a carry to a rod

    static void termsACarryTo14Shows15() {
        StuckRods x = new StuckRods();
        x.move(0, 2, 5);
        x.move(1, 2, 4);
        Check.due("a carry to 14", x.add(0, 5), 1 + 1);
        nothingShownIsLost("a carry to 14", x, "0 0 0 0 0 0 0 15 10", 0);
    }

    static void termsACarryTo15Shows6WithACarry() {
        StuckRods x = new StuckRods();
        x.move(0, 2, 5);
        x.move(1, 2, 5);
        Check.due("a carry to 15", x.add(0, 1), 5 + 5 + 1);
        nothingShownIsLost("a carry to 15", x, "0 0 0 0 0 0 1 6 6", 0);
    }

    static void termsACarryOfMinus1To1Shows0() {
        StuckRods x = new StuckRods();
        x.move(1, 0, 1);
        Check.due("a carry of -1 to 1", x.less(0, 1), 5 + 1);
        nothingShownIsLost("a carry of -1 to 1", x, "0 0 0 0 0 0 0 0 9", 0);
    }

    static void termsACarryOfMinus1To0Shows9WithACarry() {
        StuckRods x = new StuckRods();
        x.move(2, 0, 1);
        Check.due("a carry of -1 to 0", x.less(0, 1), 5 + 5 + 1);
        nothingShownIsLost("a carry of -1 to 0", x, "0 0 0 0 0 0 0 9 9", 0);
    }

    static void termsACarryThroughAllRods() {
        StuckRods x = new StuckRods();
        Given.fill(x);
        x.move(8, 2, 4);
        Check.due("add(0, 1) through all rods", x.add(0, 1), 8 * 5 + 1);
        nothingShownIsLost("up", x, "15 6 6 6 6 6 6 6 6", 0);
        StuckRods y = new StuckRods();
        y.move(8, 0, 1);
        Check.due("less(0, 1) through all rods", y.less(0, 1), 8 * 5 + 1);
        nothingShownIsLost("down", y, "0 9 9 9 9 9 9 9 9", 0);
    }

    static void termsBehindTheLastRodThereIsNone() {
        Check.refuses("add to a full last rod", x -> x.move(8, 2, 5), Check.STATE, x -> x.add(8, 1));
        Check.refuses("less from an empty last rod", Given::nothing, Check.STATE, x -> x.less(8, 1));
        StuckRods x = new StuckRods();
        x.move(8, 1, 1);
        Check.due("add to 15 at the last rod", x.add(8, 9), 5);
        Check.due("less to 6 at the last rod", x.less(8, 9), 5);
    }

    static void termsWhereNeitherCanBeShownTheRodBorrows() {
        for (int[] way : new int[][] {{0, 0}, {1, 2}, {2, 5}}) {
            StuckRods x = Given.stuckAt(1, way[0], way[1]);
            x.move(0, 2, 5);
            Check.due("a carry to stuck beads", x.add(0, 1), 5);
            Check.rodIs("it borrows", x, 1, way[0], way[1], 5 * way[0] + way[1], 101, 3, way[0] + way[1], 1);
            x.move(0, 0, 0);
            Check.due("a carry of -1 to stuck beads", x.less(0, 1), 5);
            Check.rodIs("it gives back", x, 1, way[0], way[1], 5 * way[0] + way[1], 100, 3, way[0] + way[1], 2);
        }
    }

    static void termsStuckOnesAlwaysBorrow() {
        for (int ones : new int[] {0, 4, 5}) {
            StuckRods x = new StuckRods();
            x.move(1, 1, ones);
            x.stick(1, 2);
            x.move(0, 2, 5);
            Check.due("a carry to stuck ones", x.add(0, 1), 5);
            Check.due("its loan", x.rod(1, 3), 101);
            x.move(0, 0, 0);
            x.less(0, 1);
            x.move(0, 0, 0);
            Check.due("a carry of -1 to stuck ones", x.less(0, 1), 5);
            Check.due("its loan below 0", x.rod(1, 3), 99);
        }
    }

    static void termsStuckFivesBorrowAtTheLastOneOrTheFirst() {
        for (int fives = 0; fives <= 2; fives++) {
            StuckRods x = new StuckRods();
            x.move(1, fives, 4);
            x.stick(1, 1);
            x.move(0, 2, 5);
            x.add(0, 1);
            Check.rodIs("a carry to 4 ones", x, 1, fives, 5, 5 * fives + 5, 100);
            x.move(0, 2, 5);
            x.add(0, 1);
            Check.rodIs("a carry to 5 ones: neither 1 more nor 9 less", x, 1, fives, 5, 5 * fives + 5, 101);
            StuckRods y = new StuckRods();
            y.move(1, fives, 1);
            y.stick(1, 1);
            y.less(0, 1);
            Check.rodIs("a carry of -1 to 1 one", y, 1, fives, 0, 5 * fives, 100);
            y.move(0, 0, 0);
            y.less(0, 1);
            Check.rodIs("a carry of -1 to no ones: neither 1 less nor 9 more", y, 1, fives, 0, 5 * fives, 99);
        }
    }

    static void termsTheLastRodBorrowsToo() {
        StuckRods x = Given.stuckAt(8, 2, 5);
        x.move(7, 2, 5);
        Check.due("a carry to the last rod", x.add(7, 1), 5);
        Check.due("its loan", x.rod(8, 3), 101);
        StuckRods y = Given.stuckAt(8, 0, 0);
        Check.due("a carry of -1 to the last rod", y.less(7, 1), 5);
        Check.due("its loan below 0", y.rod(8, 3), 99);
    }

    static void termsOneRodBorrowsAndTheCarryEndsThere() {
        StuckRods x = new StuckRods();
        Given.fill(x);
        x.stick(4, 3);
        Check.due("through the rods 1 to 3", x.add(0, 1), 4 * 5);
        nothingShownIsLost("the rod 4 borrows", x, "15 15 15 15 15 6 6 6 6", 1);
        Check.due("its loan", x.rod(4, 3), 101);
    }

    static void termsALoanOf0AtMostCannotBeMade() {
        Check.refuses("a loan of 1 above 0", x -> {
            Given.stickAt(x, 1, 0, 0);
            x.move(0, 2, 5);
            x.set(0);
        }, Check.STATE, x -> x.add(0, 1));
        Check.refuses("a loan of -1 below 0", x -> {
            Given.stickAt(x, 1, 0, 0);
            x.set(0);
        }, Check.STATE, x -> x.less(0, 1));
    }

    static void termsALoanOnTheOtherSideGoesThrough0() {
        StuckRods x = Given.withLoan(1, -3);
        x.stick(1, 3);
        for (int loan = -2; loan <= 3; loan++) {
            x.move(0, 2, 5);
            x.add(0, 1);
            Check.due("the loan", x.rod(1, 3), 100 + loan);
        }
        Check.due("how often it became another one", x.rod(1, 6), 9);
    }

    // ---- Terms, Adding: the order of the ways, and what cannot be done

    static void termsNMoreComesAheadOfTheCarry() {
        StuckRods x = new StuckRods();
        x.move(0, 1, 0);
        Check.due("5 and 5: 10, not 0 with a carry", x.add(0, 5), 1);
        nothingShownIsLost("5 and 5", x, "0 0 0 0 0 0 0 0 10", 0);
        Check.due("10 less 9: 1, not 11 with a carry of -1", x.less(0, 9), 3);
        nothingShownIsLost("10 less 9", x, "0 0 0 0 0 0 0 0 1", 0);
    }

    static void termsOneMoreComesAheadOfTheCarryBehind() {
        StuckRods x = new StuckRods();
        x.move(0, 2, 5);
        x.move(1, 1, 4);
        x.add(0, 1);
        nothingShownIsLost("a carry to 9: 10, not 0 with a carry", x, "0 0 0 0 0 0 0 10 6", 0);
        StuckRods y = new StuckRods();
        y.move(1, 1, 0);
        y.less(0, 1);
        nothingShownIsLost("a carry of -1 to 5: 4, not 14 with a carry of -1", y, "0 0 0 0 0 0 0 4 9", 0);
    }

    /** The rod comes to show 9 less ahead of borrowing: it does not borrow when the carry behind it fails then. */
    static void termsTheWaysAreAskedWithoutGoingBackUpwards() {
        Check.refuses("9 less at the last rod", x -> {
            x.move(7, 2, 5);
            x.move(8, 2, 5);
            x.set(9);
        }, Check.STATE, x -> x.add(7, 1));
        Check.refuses("9 less at the rod 7, and the rod 8 cannot borrow any more", x -> {
            Given.borrow(x, 8, 3);
            x.stick(8, 3);
            x.move(7, 2, 5);
            x.move(6, 2, 5);
        }, Check.STATE, x -> x.add(6, 1));
    }

    static void termsTheWaysAreAskedWithoutGoingBackDownwards() {
        Check.refuses("9 more at the last rod", x -> x.set(9), Check.STATE, x -> x.less(7, 1));
        Check.refuses("9 more at the rod 7, and the rod 8 cannot borrow any more", x -> {
            Given.borrow(x, 8, -3);
            x.stick(8, 3);
        }, Check.STATE, x -> x.less(6, 1));
    }

    static void termsWhatCannotBeDoneChangesNothingOfTheRodsAhead() {
        Check.refuses("all rods are full", Given::fill, Check.STATE, x -> x.add(0, 1));
        Check.refuses("all rods are empty", Given::nothing, Check.STATE, x -> x.less(0, 1));
        Check.refuses("the rod 5 may not borrow, up", x -> {
            Given.fill(x);
            x.stick(5, 3);
            x.set(0);
        }, Check.STATE, x -> x.add(2, 9));
        Check.refuses("the rod 5 may not borrow, down", x -> {
            x.stick(5, 3);
            x.set(0);
        }, Check.STATE, x -> x.less(2, 9));
    }

    // ---- Promises 5 and 6: add, less

    static void promise5TheRodIs0To8() {
        StuckRods x = new StuckRods();
        Check.due("add(0, 9)", x.add(0, 9), 5);
        Check.due("add(8, 9)", x.add(8, 9), 5);
        Check.shows("the first and the last", x, "9 0 0 0 0 0 0 0 9");
        for (int rod : Given.NO_RODS) {
            Check.refuses("add(" + rod + ", 1)", Given::nothing, Check.INDEX, y -> y.add(rod, 1));
        }
    }

    static void promise5TheNumberIs1To9() {
        for (int n = 1; n <= 9; n++) {
            StuckRods x = new StuckRods();
            x.add(4, n);
            Check.due("add(4, " + n + ")", x.rod(4, 2), n);
        }
        for (int n : NO_NUMBERS) {
            Check.refuses("add(4, " + n + ")", x -> x.move(4, 1, 0), Check.ARGUMENT, x -> x.add(4, n));
        }
    }

    static void promise5ReturnsTheMovesOfAllRods() {
        StuckRods x = new StuckRods();
        x.move(0, 2, 5);
        x.move(1, 2, 5);
        x.move(2, 1, 4);
        int before = x.count(0);
        Check.due("add(0, 9)", x.add(0, 9), 1 + 5 + 1);
        Check.due("moves so far", x.count(0), before + 7);
        Check.shows("add(0, 9)", x, "0 0 0 0 0 0 10 6 14");
        Check.due("moves of the rod 0", x.rod(0, 5), 7 + 1);
        Check.due("moves of the rod 1", x.rod(1, 5), 7 + 5);
        Check.due("moves of the rod 2", x.rod(2, 5), 5 + 1);
    }

    static void promise5TheRodIsNamedAheadOfTheNumber() {
        for (int rod : Given.NO_RODS) {
            Check.refuses("no rod, no such number", Given::nothing, Check.INDEX, x -> x.add(rod, 0));
            Check.refuses("no rod, no such number above", Given::nothing, Check.INDEX, x -> x.add(rod, 10));
        }
    }

    static void promise5TheNumberIsNamedAheadOfWhatCannotBeDone() {
        for (int n : NO_NUMBERS) {
            Check.refuses("no such number, a stuck rod", x -> Given.stickAt(x, 8, 2, 5), Check.ARGUMENT, x -> x.add(8, n));
        }
    }

    static void promise5WhatCannotBeDoneIsRefused() {
        for (int n = 1; n <= 9; n++) {
            int number = n;
            Check.refuses("add to a stuck rod", x -> Given.stickAt(x, 4, 1, 2), Check.STATE, x -> x.add(4, number));
            Check.refuses("add to the last rod", x -> x.move(8, 2, 5), Check.STATE, x -> x.add(8, number));
        }
    }

    static void promise5IsUndoable() {
        Check.savesOne("add", Given::nothing, x -> x.add(0, 9));
        Check.savesOne("add through all rods", x -> {
            Given.fill(x);
            x.move(8, 0, 0);
        }, x -> x.add(0, 1));
        Check.savesOne("add with a loan", x -> {
            Given.stickAt(x, 5, 1, 1);
            x.move(4, 2, 5);
        }, x -> x.add(4, 7));
    }

    static void promise6TheRodIs0To8() {
        StuckRods x = new StuckRods();
        Given.fill(x);
        Check.due("less(0, 9)", x.less(0, 9), 1 + 4);
        Check.due("less(8, 9)", x.less(8, 9), 1 + 4);
        Check.shows("the first and the last", x, "6 15 15 15 15 15 15 15 6");
        for (int rod : Given.NO_RODS) {
            Check.refuses("less(" + rod + ", 1)", Given::fill, Check.INDEX, y -> y.less(rod, 1));
        }
    }

    static void promise6TheNumberIs1To9() {
        for (int n = 1; n <= 9; n++) {
            StuckRods x = new StuckRods();
            x.move(4, 2, 5);
            x.less(4, n);
            Check.due("less(4, " + n + ")", x.rod(4, 2), 15 - n);
        }
        for (int n : NO_NUMBERS) {
            Check.refuses("less(4, " + n + ")", x -> x.move(4, 1, 0), Check.ARGUMENT, x -> x.less(4, n));
        }
    }

    static void promise6ReturnsTheMovesOfAllRods() {
        StuckRods x = new StuckRods();
        x.move(2, 1, 0);
        int before = x.count(0);
        Check.due("less(0, 9)", x.less(0, 9), 1 + 5 + 5);
        Check.due("moves so far", x.count(0), before + 11);
        Check.shows("less(0, 9)", x, "0 0 0 0 0 0 4 9 1");
        Check.due("moves of the rod 0", x.rod(0, 5), 1);
        Check.due("moves of the rod 1", x.rod(1, 5), 5);
        Check.due("moves of the rod 2", x.rod(2, 5), 1 + 5);
    }

    static void promise6TheRodIsNamedAheadOfTheNumber() {
        for (int rod : Given.NO_RODS) {
            Check.refuses("no rod, no such number", Given::nothing, Check.INDEX, x -> x.less(rod, 0));
            Check.refuses("no rod, no such number above", Given::nothing, Check.INDEX, x -> x.less(rod, 10));
        }
    }

    static void promise6TheNumberIsNamedAheadOfWhatCannotBeDone() {
        for (int n : NO_NUMBERS) {
            Check.refuses("no such number, a stuck rod", x -> Given.stickAt(x, 8, 0, 0), Check.ARGUMENT, x -> x.less(8, n));
        }
    }

    static void promise6WhatCannotBeDoneIsRefused() {
        for (int n = 1; n <= 9; n++) {
            int number = n;
            Check.refuses("less from a stuck rod", x -> Given.stickAt(x, 4, 1, 2), Check.STATE, x -> x.less(4, number));
            Check.refuses("less from the last rod", Given::nothing, Check.STATE, x -> x.less(8, number));
        }
    }

    static void promise6IsUndoable() {
        Check.savesOne("less", x -> x.move(0, 2, 5), x -> x.less(0, 9));
        Check.savesOne("less through all rods", x -> x.move(8, 2, 5), x -> x.less(0, 1));
        Check.savesOne("less with a loan", x -> Given.stickAt(x, 5, 1, 1), x -> x.less(4, 7));
    }

    // ---- Promise 7: pay

    static void promise7TheRodIs0To8() {
        StuckRods x = new StuckRods();
        Check.due("pay(0)", x.pay(0), 0);
        StuckRods y = Given.withLoan(8, 2);
        Check.due("pay(8)", y.pay(8), 2);
        Check.rodIs("pay(8)", y, 8, 0, 2, 2, 100);
        for (int rod : Given.NO_RODS) {
            Check.refuses("pay(" + rod + ")", z -> Given.borrow(z, 8, 1), Check.INDEX, z -> z.pay(rod));
        }
    }

    static void promise7ALoanOf0IsPaidAtOnce() {
        for (int r = 0; r <= 8; r++) {
            int rod = r;
            Check.due("pay of no loan, stuck and full", Given.stuckAt(r, 2, 5).pay(r), 0);
            Check.savesOne("pay of no loan, stuck and empty", x -> Given.stickAt(x, rod, 0, 0), x -> x.pay(rod));
        }
    }

    static void promise7EveryLoanAbove0IsAdded() {
        for (int n = 1; n <= 9; n++) {
            StuckRods x = Given.withLoan(4, n);
            StuckRods adds = new StuckRods();
            Check.due("pay of " + n, x.pay(4), adds.add(4, n));
            Check.rodIs("pay of " + n, x, 4, adds.rod(4, 0), adds.rod(4, 1), n, 100);
            Check.due("no loan is left", x.count(1), 0);
        }
    }

    static void promise7EveryLoanBelow0IsTakenAway() {
        for (int n = 1; n <= 9; n++) {
            StuckRods x = Given.withLoan(4, -n);
            x.move(4, 2, 5);
            StuckRods takes = new StuckRods();
            takes.move(4, 2, 5);
            Check.due("pay of -" + n, x.pay(4), takes.less(4, n));
            Check.rodIs("pay of -" + n, x, 4, takes.rod(4, 0), takes.rod(4, 1), 15 - n, 100);
            Check.due("no loan is left", x.count(1), 0);
        }
    }

    static void promise7PayTo15AndAbove() {
        StuckRods x = Given.withLoan(4, 9);
        x.move(4, 1, 1);
        Check.due("6 and 9: 15", x.pay(4), 5);
        nothingShownIsLost("6 and 9", x, "0 0 0 0 15 0 0 0 0", 0);
        StuckRods y = Given.withLoan(4, 9);
        y.move(4, 1, 2);
        Check.due("7 and 9: 6 with a carry", y.pay(4), 1 + 1);
        nothingShownIsLost("7 and 9", y, "0 0 0 1 6 0 0 0 0", 0);
    }

    static void promise7PayTo0AndBelow() {
        StuckRods x = Given.withLoan(4, -9);
        x.move(4, 1, 4);
        Check.due("9 less 9: 0", x.pay(4), 5);
        nothingShownIsLost("9 less 9", x, "0 0 0 0 0 0 0 0 0", 0);
        StuckRods y = Given.withLoan(4, -9);
        y.move(4, 1, 3);
        y.move(5, 0, 1);
        Check.due("8 less 9: 9 with a carry of -1", y.pay(4), 1 + 1);
        nothingShownIsLost("8 less 9", y, "0 0 0 0 9 0 0 0 0", 0);
    }

    static void promise7WhatCannotBeDoneIsRefused() {
        Check.refuses("a stuck rod", x -> {
            Given.borrow(x, 4, 2);
            x.stick(4, 3);
        }, Check.STATE, x -> x.pay(4));
        Check.refuses("a stuck rod, below 0", x -> {
            Given.borrow(x, 4, -2);
            x.move(4, 2, 5);
            x.stick(4, 3);
        }, Check.STATE, x -> x.pay(4));
        Check.refuses("stuck ones, a loan of 4", x -> {
            Given.borrow(x, 4, 4);
            x.stick(4, 2);
        }, Check.STATE, x -> x.pay(4));
    }

    static void promise7BehindTheLastRodThereIsNone() {
        Check.refuses("15 and 1 at the last rod", x -> {
            Given.borrow(x, 8, 1);
            x.move(8, 2, 5);
        }, Check.STATE, x -> x.pay(8));
        Check.refuses("0 less 1 at the last rod", x -> Given.borrow(x, 8, -1), Check.STATE, x -> x.pay(8));
    }

    static void promise7TheNextRodMayNotBorrow() {
        Check.refuses("the next rod's loan would be above 3", x -> {
            Given.borrow(x, 5, 3);
            Given.borrow(x, 4, 1);
            x.stick(5, 3);
            x.move(4, 2, 5);
        }, Check.STATE, x -> x.pay(4));
        Check.refuses("the next rod's loan would be below -3", x -> {
            Given.borrow(x, 5, -3);
            Given.borrow(x, 4, -1);
            x.stick(5, 3);
        }, Check.STATE, x -> x.pay(4));
    }

    static void promise7StuckOnesPayALoanOf5() {
        StuckRods x = Given.withLoan(4, 5);
        x.stick(4, 2);
        Check.due("a loan of 5, stuck ones", x.pay(4), 1);
        Check.rodIs("paid by a five", x, 4, 1, 0, 5, 100);
    }

    static void promise7LoansOfOtherRodsCanComeByIt() {
        StuckRods x = Given.withLoan(4, 1);
        x.move(4, 2, 5);
        x.stick(5, 3);
        Check.due("pay(4)", x.pay(4), 5);
        Check.due("the rod 4 has none", x.rod(4, 3), 100);
        Check.due("the rod 5 borrows", x.rod(5, 3), 101);
        Check.due("a change by a carry", x.rod(5, 6), 1);
        StuckRods y = Given.withLoan(4, -1);
        y.stick(5, 3);
        Check.due("pay(4) below 0", y.pay(4), 5);
        Check.due("the rod 4 has none", y.rod(4, 3), 100);
        Check.due("the rod 5 borrows below 0", y.rod(5, 3), 99);
    }

    static void promise7OtherLoansStay() {
        StuckRods x = Given.withLoan(4, 2);
        Given.borrow(x, 6, -2);
        Given.borrow(x, 2, 1);
        x.pay(4);
        Check.due("rods with a loan", x.count(1), 2);
        Check.due("the rod 6", x.rod(6, 3), 98);
        Check.due("the rod 2", x.rod(2, 3), 101);
    }

    static void promise7ALoanAboveTheSettingCanBePaid() {
        StuckRods x = Given.withLoan(4, 9);
        x.set(0);
        Check.due("a loan of 9, of none at most", x.pay(4), 5);
    }

    static void promise7ReturnsTheMovesOfAllRods() {
        StuckRods x = Given.withLoan(4, 9);
        Given.fill(x);
        x.move(8, 0, 0);
        int before = x.count(0);
        Check.due("pay through the rods behind", x.pay(4), 1 + 5 + 5 + 5 + 1);
        Check.due("moves so far", x.count(0), before + 17);
        Check.shows("pay through the rods behind", x, "1 6 6 6 14 15 15 15 15");
    }

    static void promise7IsUndoable() {
        Check.savesOne("pay", x -> Given.borrow(x, 4, 2), x -> x.pay(4));
        Check.savesOne("pay with a loan of the next rod", x -> {
            Given.borrow(x, 4, -2);
            x.stick(5, 3);
        }, x -> x.pay(4));
    }

    // ---- Promise 8: tidy

    static void promise8From10OnIsPutInOrder() {
        for (int fives = 0; fives <= 2; fives++) {
            for (int ones = 0; ones <= 5; ones++) {
                StuckRods x = new StuckRods();
                x.move(4, fives, ones);
                int shown = 5 * fives + ones;
                int due = shown < 10 ? 0 : x.moves(4, shown - 10) + 1;
                Check.due("tidy of " + fives + " and " + ones, x.tidy(), due);
                Check.shows("tidy", x, shown < 10 ? "0 0 0 0 " + shown + " 0 0 0 0" : "0 0 0 1 " + (shown - 10) + " 0 0 0 0");
            }
        }
    }

    static void promise8From10OnIsPutInOrderWhereItCan() {
        StuckRods stuckFives = new StuckRods();
        stuckFives.move(4, 1, 5);
        stuckFives.stick(4, 1);
        Check.due("10 with a stuck five", stuckFives.tidy(), 0);
        Check.shows("10 with a stuck five", stuckFives, "0 0 0 0 10 0 0 0 0");
        StuckRods stuckOnes = new StuckRods();
        stuckOnes.move(4, 1, 5);
        stuckOnes.stick(4, 2);
        Check.due("10 with stuck ones", stuckOnes.tidy(), 0);
        Check.shows("10 with stuck ones", stuckOnes, "0 0 0 0 10 0 0 0 0");
        StuckRods canOnes = new StuckRods();
        canOnes.move(4, 2, 5);
        canOnes.stick(4, 2);
        Check.due("15 with stuck ones", canOnes.tidy(), 2 + 1);
        Check.shows("15 with stuck ones", canOnes, "0 0 0 1 5 0 0 0 0");
    }

    static void promise8TheLastRodCannotBePutInOrder() {
        StuckRods x = new StuckRods();
        x.move(8, 2, 5);
        Check.due("the last rod", x.tidy(), 0);
        Check.shows("the last rod", x, "15 0 0 0 0 0 0 0 0");
        x.move(7, 2, 5);
        Check.due("the rod ahead of the full last one", x.tidy(), 0);
        Check.shows("the rod ahead of the full last one", x, "15 15 0 0 0 0 0 0 0");
        x.move(8, 2, 4);
        Check.due("the rod ahead of a last one of 14", x.tidy(), 2 + 1);
        Check.shows("the rod ahead of a last one of 14", x, "15 5 0 0 0 0 0 0 0");
    }

    static void promise8ACarryThatCannotBeDoneLeavesTheRod() {
        StuckRods x = Given.stuckAt(5, 1, 1);
        x.set(0);
        x.move(4, 2, 3);
        Check.due("the next rod may not borrow", x.tidy(), 0);
        Check.shows("the next rod may not borrow", x, "0 0 0 6 13 0 0 0 0");
        x.set(1);
        Check.due("the next rod borrows", x.tidy(), 2);
        Check.shows("the next rod borrows", x, "0 0 0 6 3 0 0 0 0");
        Check.due("its loan, which it cannot pay", x.rod(5, 3), 101);
    }

    static void promise8GoesThroughTheRodsFrom0On() {
        StuckRods x = new StuckRods();
        x.move(0, 2, 0);
        for (int r = 1; r <= 7; r++) {
            x.move(r, 1, 4);
        }
        Check.due("each rod comes to 10 by the one ahead of it", x.tidy(), 2 + 7 * ((1 + 4) + 2) + 1);
        Check.shows("each rod in order", x, "1 0 0 0 0 0 0 0 0");
    }

    static void promise8PaysAheadOfPuttingInOrder() {
        StuckRods x = Given.withLoan(4, 1);
        x.move(4, 1, 4);
        Check.due("9 and 1: 10, then 0 with a carry", x.tidy(), (1 + 4) + 2 + 1);
        nothingShownIsLost("9 and 1", x, "0 0 0 1 0 0 0 0 0", 0);
        StuckRods y = Given.withLoan(4, -1);
        y.move(4, 2, 0);
        Check.due("10 less 1: 9, in order", y.tidy(), 1 + 4);
        nothingShownIsLost("10 less 1", y, "0 0 0 0 9 0 0 0 0", 0);
    }

    static void promise8WhatCannotBePaidIsPutInOrderAllTheSame() {
        StuckRods x = Given.withLoan(4, 4);
        x.move(4, 2, 2);
        x.stick(4, 2);
        Check.due("12 with stuck ones and a loan of 4", x.tidy(), 2 + 1);
        nothingShownIsLost("12 with stuck ones", x, "0 0 0 1 2 0 0 0 0", 4);
    }

    static void promise8WhatCannotBeDoneKeepsNoOtherRodBack() {
        StuckRods x = Given.withLoan(2, 1);
        Given.borrow(x, 5, -1);
        x.stick(2, 3);
        x.move(6, 2, 0);
        x.move(5, 0, 1);
        Check.due("the rod 2 cannot pay, the rod 5 and the rod 6 can", x.tidy(), 1 + 2 + 1);
        nothingShownIsLost("the others", x, "0 1 0 0 0 0 0 0 0", 1);
    }

    /** The loan comes to the rod 5 in the same call, ahead of its own turn. */
    static void promise8ALoanThatComesOnTheWayIsPaid() {
        StuckRods x = Given.withLoan(5, 4);
        x.set(9);
        x.stick(5, 2);
        x.move(4, 2, 0);
        Check.due("a loan of 5 by the carry: a five", x.tidy(), 2 + 1);
        nothingShownIsLost("paid by a five", x, "0 0 0 5 0 0 0 0 0", 0);
    }

    static void promise8EveryLoanFromTheFirstRodToTheLast() {
        StuckRods x = new StuckRods();
        for (int r = 8; r >= 1; r--) {
            Given.borrow(x, r, 1);
        }
        Check.due("rods with a loan", x.count(1), 8);
        Check.due("tidy", x.tidy(), 8);
        nothingShownIsLost("all paid", x, "1 1 1 1 1 1 1 1 0", 0);
    }

    static void promise8NothingToDo() {
        StuckRods x = new StuckRods();
        Check.due("a new one", x.tidy(), 0);
        Check.shows("a new one", x, "0 0 0 0 0 0 0 0 0");
        for (int r = 0; r <= 8; r++) {
            Given.stickAt(x, r, 2, 5);
        }
        Check.due("all stuck", x.tidy(), 0);
        nothingShownIsLost("all stuck", x, "15 15 15 15 15 15 15 15 15", 0);
    }

    static void promise8ReturnsTheMovesOfAllRods() {
        StuckRods x = new StuckRods();
        Given.fill(x);
        x.move(8, 0, 0);
        int before = x.count(0);
        int moves = x.tidy();
        Check.due("moves so far", x.count(0), before + moves);
        // The rod 0: 2 moves, 5 for each of 15 that becomes 6, and 1; then 6 needs none, and each of them is in order.
        Check.due("tidy of 15s", moves, 2 + 7 * 5 + 1);
        Check.shows("tidy of 15s", x, "1 6 6 6 6 6 6 6 5");
    }

    static void promise8IsUndoableAsOneCallAlsoIfItChangesNothing() {
        Check.savesOne("tidy of nothing", Given::nothing, StuckRods::tidy);
        Check.savesOne("tidy of all that it can", x -> {
            Given.borrow(x, 6, 2);
            Given.borrow(x, 2, -2);
            Given.fill(x);
            x.move(8, 1, 1);
            x.stick(4, 3);
        }, StuckRods::tidy);
    }

    public static void main(String[] args) {
        Check.runAll(AddingBoundaryTest.class);
    }
}
