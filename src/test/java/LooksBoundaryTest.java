import java.math.BigInteger;
import java.util.ArrayList;
import java.util.List;
import java.util.function.Consumer;

/** A test for each boundary case that the document names: promises 14 to 22, which change nothing. */
public final class LooksBoundaryTest {
    private static final int[] FARTHEST = {Integer.MIN_VALUE, Integer.MAX_VALUE};

    private LooksBoundaryTest() {
    }

    /** Something of everything: loans above and below 0, stuck beads, a text. */
    private static void mixed(StuckRods x) {
        Given.borrow(x, 5, 2);
        Given.borrow(x, 2, -1);
        x.move(4, 1, 3);
        x.move(8, 2, 5);
        x.stick(4, 1);
        x.stick(7, 3);
        Given.write(x, "+12-x");
    }

    private static void looks(String what, Consumer<StuckRods> call) {
        Check.changesNothing(what, LooksBoundaryTest::mixed, call);
        Check.changesNothing(what + " of full rods", Given::fill, call);
        Check.changesNothing(what + " of empty rods", Given::nothing, call);
    }

    // ---- Promise 14: rod

    static void promise14TheRodIs0To8() {
        StuckRods x = new StuckRods();
        x.move(0, 1, 2);
        x.move(8, 2, 1);
        Check.rodIs("the first rod", x, 0, 1, 2, 7, 100, 0, 3, 0, 16);
        Check.rodIs("the last rod", x, 8, 2, 1, 11, 100, 0, 3, 0, 16);
        for (int rod : Given.NO_RODS) {
            Check.refuses("rod(" + rod + ", 0)", LooksBoundaryTest::mixed, Check.INDEX, y -> y.rod(rod, 0));
        }
    }

    static void promise14WhatIs0To7() {
        for (int what : new int[] {-1, 8, FARTHEST[0], FARTHEST[1]}) {
            Check.refuses("rod(0, " + what + ")", LooksBoundaryTest::mixed, Check.ARGUMENT, x -> x.rod(0, what));
        }
    }

    static void promise14TheRodIsNamedAheadOfWhat() {
        for (int rod : Given.NO_RODS) {
            Check.refuses("no rod, no such number", LooksBoundaryTest::mixed, Check.INDEX, x -> x.rod(rod, 8));
            Check.refuses("no rod, no such number below 0", LooksBoundaryTest::mixed, Check.INDEX, x -> x.rod(rod, -1));
        }
    }

    static void promise14What3IsTheLoanAnd100More() {
        Check.due("a loan of 9", Given.withLoan(1, 9).rod(1, 3), 109);
        Check.due("a loan of 1", Given.withLoan(1, 1).rod(1, 3), 101);
        Check.due("no loan", new StuckRods().rod(1, 3), 100);
        Check.due("a loan of -1", Given.withLoan(1, -1).rod(1, 3), 99);
        Check.due("a loan of -9", Given.withLoan(1, -9).rod(1, 3), 91);
    }

    static void promise14What5IsTheMovesOfItsBeadsOnly() {
        StuckRods x = new StuckRods();
        x.move(4, 2, 5);
        x.add(4, 1);
        Check.due("the rod's own", x.rod(4, 5), 7 + 5);
        Check.due("the next rod's own", x.rod(5, 5), 1);
        Check.due("no other's", x.rod(6, 5) + x.rod(3, 5), 0);
    }

    static void promise14What6IsChangesByCarriesOnly() {
        StuckRods x = Given.withLoan(4, 2);
        Check.due("two carries", x.rod(4, 6), 2);
        x.pay(4);
        Check.due("a loan that is paid is no change by a carry", x.rod(4, 6), 2);
        x.stick(4, 3);
        x.move(3, 2, 5);
        x.add(3, 1);
        x.move(3, 0, 0);
        x.less(3, 1);
        Check.due("to 1 and back to 0: two more", x.rod(4, 6), 4);
        Check.due("the loan is 0", x.rod(4, 3), 100);
        x.set(0);
        x.move(3, 2, 5);
        Check.throwsThis("a loan that is refused", Check.STATE, () -> x.add(3, 1));
        Check.due("what is refused is no change", x.rod(4, 6), 4);
        Check.due("a carry that the rod shows is no change", new StuckRods().rod(4, 6), 0);
    }

    static void promise14What7IsHowManyNumbersWithItsOwn() {
        for (int fives = 0; fives <= 2; fives++) {
            for (int ones = 0; ones <= 5; ones++) {
                StuckRods x = new StuckRods();
                x.move(8, fives, ones);
                Check.due("loose", x.rod(8, 7), 16);
                x.stick(8, 1);
                Check.due("stuck fives", x.rod(8, 7), 6);
                x.stick(8, 2);
                Check.due("stuck ones", x.rod(8, 7), 3);
                x.stick(8, 3);
                Check.due("all stuck: its own alone", x.rod(8, 7), 1);
            }
        }
    }

    static void promise14ChangesNothing() {
        looks("rod", x -> {
            for (int r = 0; r <= 8; r++) {
                for (int what = 0; what <= 7; what++) {
                    x.rod(r, what);
                }
            }
        });
    }

    // ---- Promise 15: whole

    static void promise15TheGreatest() {
        StuckRods x = new StuckRods();
        for (int r = 8; r >= 1; r--) {
            Given.borrow(x, r, 9);
        }
        Given.fill(x);
        Check.due("15 at each rod, and a loan of 9 at each but the first", x.whole(), 24 * 111111110L + 15);
    }

    static void promise15TheLowest() {
        StuckRods x = new StuckRods();
        for (int r = 8; r >= 1; r--) {
            Given.borrow(x, r, -9);
        }
        Check.due("0 at each rod, and a loan of -9 at each but the first", x.whole(), -9 * 111111110L);
    }

    static void promise15EachRodByItsPower() {
        long power = 1;
        for (int r = 0; r <= 8; r++) {
            StuckRods x = new StuckRods();
            x.move(r, 2, 5);
            Check.due("15 at the rod " + r, x.whole(), 15 * power);
            if (r > 0) {
                Check.due("a loan at the rod " + r, Given.withLoan(r, 2).whole(), 2 * power);
                Check.due("a loan below 0 at the rod " + r, Given.withLoan(r, -2).whole(), -2 * power);
            }
            power *= 10;
        }
    }

    static void promise15AboveTheGreatestInt() {
        StuckRods x = Given.withLoan(8, 9);
        x.move(8, 2, 5);
        Check.due("24 at the last rod", x.whole(), 2400000000L);
    }

    static void promise15ChangesNothing() {
        looks("whole", StuckRods::whole);
    }

    // ---- Promise 16: count

    static void promise16WhatIs0To7() {
        for (int what : new int[] {-1, 8, FARTHEST[0], FARTHEST[1]}) {
            Check.refuses("count(" + what + ")", LooksBoundaryTest::mixed, Check.ARGUMENT, x -> x.count(what));
        }
    }

    static void promise16OfANewObject() {
        Check.counts("new", new StuckRods(), 0, 0, 100, 0, 0, 0, 3, 0);
    }

    static void promise16What0IsTheMovesOfAllRods() {
        StuckRods x = new StuckRods();
        Given.fill(x);
        Check.due("all beads once", x.count(0), 9 * 7);
        x.move(0, 2, 5);
        Check.due("no move more", x.count(0), 9 * 7);
        x.moves(0, 0);
        x.ifAdded(0, -9);
        Check.due("what would be is no move", x.count(0), 9 * 7);
    }

    static void promise16What1And2OfNoLoanToAll() {
        StuckRods above = new StuckRods();
        StuckRods below = new StuckRods();
        for (int r = 8; r >= 1; r--) {
            Given.borrow(above, r, 9);
            Given.borrow(below, r, -9);
            Check.due("rods with a loan", above.count(1), 9 - r);
            Check.due("rods with a loan below 0", below.count(1), 9 - r);
        }
        Check.due("the greatest sum of loans", above.count(2), 172);
        Check.due("the lowest sum of loans", below.count(2), 28);
    }

    static void promise16What2OfLoansThatMakeUp0() {
        StuckRods x = Given.withLoan(1, 2);
        Given.borrow(x, 3, -2);
        Check.due("rods with a loan", x.count(1), 2);
        Check.due("the sum of their loans", x.count(2), 100);
    }

    static void promise16What3Is0To8() {
        for (int n = 0; n <= 15; n++) {
            StuckRods x = new StuckRods();
            x.move(8, Math.min(2, n / 5), n - 5 * Math.min(2, n / 5));
            Check.due("modulo 9 of " + n, x.count(3), n % 9);
        }
        StuckRods full = new StuckRods();
        Given.fill(full);
        Check.due("modulo 9 of 135", full.count(3), 0);
    }

    static void promise16What3OfLoansBelow0() {
        for (int loan = 1; loan <= 9; loan++) {
            Check.due("modulo 9 of -" + loan, Given.withLoan(1, -loan).count(3), 9 - loan);
        }
        StuckRods x = new StuckRods();
        for (int r = 8; r >= 1; r--) {
            Given.borrow(x, r, -9);
        }
        Check.due("modulo 9 of -72", x.count(3), 0);
        x.move(0, 0, 1);
        Check.due("modulo 9 of -71", x.count(3), 1);
    }

    static void promise16What3IsTheWholeNumberModulo9() {
        StuckRods x = Given.withLoan(6, -3);
        Given.borrow(x, 2, 5);
        x.move(0, 1, 3);
        x.move(7, 2, 4);
        Check.due("modulo 9", x.count(3), Math.floorMod(x.whole(), 9L));
    }

    static void promise16What4Is10AndMore() {
        for (int fives = 0; fives <= 2; fives++) {
            for (int ones = 0; ones <= 5; ones++) {
                StuckRods x = new StuckRods();
                x.move(4, fives, ones);
                Check.due("rods that show 10 or more at " + (5 * fives + ones), x.count(4), 5 * fives + ones >= 10 ? 1 : 0);
            }
        }
        StuckRods x = new StuckRods();
        for (int r = 0; r <= 8; r++) {
            x.move(r, 2, 0);
            Check.due("rods that show 10 or more", x.count(4), r + 1);
        }
        StuckRods loan = Given.withLoan(4, 9);
        loan.move(4, 1, 4);
        Check.due("9 with a loan of 9 is not 10 shown", loan.count(4), 0);
    }

    static void promise16What5IsSomethingStuck() {
        StuckRods x = new StuckRods();
        for (int r = 0; r <= 8; r++) {
            x.stick(r, 1 + r % 3);
            Check.due("rods of which something is stuck", x.count(5), r + 1);
        }
        for (int r = 0; r <= 8; r++) {
            x.stick(r, 0);
            Check.due("loose again", x.count(5), 8 - r);
        }
    }

    static void promise16What6Is0To9() {
        StuckRods x = new StuckRods();
        for (int value = 0; value <= 9; value++) {
            x.set(value);
            Check.due("the setting", x.count(6), value);
        }
    }

    static void promise16What7Is0To6() {
        StuckRods x = new StuckRods();
        for (int i = 0; i <= 9; i++) {
            Check.due("saved states", x.count(7), Math.min(i, 6));
            x.set(i);
        }
    }

    static void promise16ChangesNothing() {
        looks("count", x -> {
            for (int what = 0; what <= 7; what++) {
                x.count(what);
            }
        });
    }

    // ---- Promise 17: moves

    static void promise17TheRodIs0To8() {
        StuckRods x = new StuckRods();
        x.move(0, 0, 2);
        x.move(8, 0, 4);
        Check.due("moves(0, 0)", x.moves(0, 0), 2);
        Check.due("moves(8, 0)", x.moves(8, 0), 4);
        for (int rod : Given.NO_RODS) {
            Check.refuses("moves(" + rod + ", 0)", LooksBoundaryTest::mixed, Check.INDEX, y -> y.moves(rod, 0));
        }
    }

    static void promise17TheNumberIs0To15() {
        StuckRods x = new StuckRods();
        Check.due("moves(4, 0)", x.moves(4, 0), 0);
        Check.due("moves(4, 15)", x.moves(4, 15), 7);
        x.move(4, 2, 5);
        Check.due("moves(4, 0) from 15", x.moves(4, 0), 7);
        Check.due("moves(4, 15) from 15", x.moves(4, 15), 0);
        for (int show : new int[] {-1, 16, FARTHEST[0], FARTHEST[1]}) {
            Check.refuses("moves(4, " + show + ")", LooksBoundaryTest::mixed, Check.ARGUMENT, y -> y.moves(4, show));
        }
    }

    static void promise17TheRodIsNamedAheadOfTheNumber() {
        for (int rod : Given.NO_RODS) {
            Check.refuses("no rod, no such number", LooksBoundaryTest::mixed, Check.INDEX, x -> x.moves(rod, 16));
            Check.refuses("no rod, no such number below 0", LooksBoundaryTest::mixed, Check.INDEX, x -> x.moves(rod, -1));
        }
    }

    static void promise17NoneIfItCannotComeToShowIt() {
        StuckRods x = Given.stuckAt(4, 1, 2);
        for (int show = 0; show <= 15; show++) {
            Check.due("all stuck: moves(4, " + show + ")", x.moves(4, show), show == 7 ? 0 : StuckRods.NONE);
        }
        x.stick(4, 1);
        Check.due("stuck fives, just below", x.moves(4, 4), StuckRods.NONE);
        Check.due("stuck fives, the lowest", x.moves(4, 5), 2);
        Check.due("stuck fives, the greatest", x.moves(4, 10), 3);
        Check.due("stuck fives, just above", x.moves(4, 11), StuckRods.NONE);
        x.stick(4, 2);
        Check.due("stuck ones, the lowest", x.moves(4, 2), 1);
        Check.due("stuck ones, one more", x.moves(4, 8), StuckRods.NONE);
        Check.due("stuck ones, one less", x.moves(4, 6), StuckRods.NONE);
        Check.due("stuck ones, the greatest", x.moves(4, 12), 1);
    }

    static void promise17ChangesNothing() {
        looks("moves", x -> {
            for (int show = 0; show <= 15; show++) {
                x.moves(4, show);
            }
        });
    }

    // ---- Promise 18: ifAdded

    static void promise18TheRodIs0To8() {
        StuckRods x = new StuckRods();
        x.move(0, 0, 2);
        x.move(8, 0, 4);
        Check.due("ifAdded(0, -2)", x.ifAdded(0, -2), 2);
        Check.due("ifAdded(8, -4)", x.ifAdded(8, -4), 4);
        for (int rod : Given.NO_RODS) {
            Check.refuses("ifAdded(" + rod + ", 1)", LooksBoundaryTest::mixed, Check.INDEX, y -> y.ifAdded(rod, 1));
        }
    }

    static void promise18TheNumberIsMinus9To9() {
        StuckRods x = new StuckRods();
        Check.due("ifAdded(4, 9)", x.ifAdded(4, 9), 5);
        x.move(4, 1, 4);
        Check.due("ifAdded(4, -9)", x.ifAdded(4, -9), 5);
        for (int n : new int[] {-10, 10, FARTHEST[0], FARTHEST[1]}) {
            Check.refuses("ifAdded(4, " + n + ")", LooksBoundaryTest::mixed, Check.ARGUMENT, y -> y.ifAdded(4, n));
        }
    }

    static void promise18TheNumber0TakesNoMoves() {
        for (int r = 0; r <= 8; r++) {
            Check.due("loose", new StuckRods().ifAdded(r, 0), 0);
            Check.due("stuck and empty", Given.stuckAt(r, 0, 0).ifAdded(r, 0), 0);
            Check.due("stuck and full", Given.stuckAt(r, 2, 5).ifAdded(r, 0), 0);
        }
    }

    static void promise18TheRodIsNamedAheadOfTheNumber() {
        for (int rod : Given.NO_RODS) {
            Check.refuses("no rod, no such number", LooksBoundaryTest::mixed, Check.INDEX, x -> x.ifAdded(rod, 10));
            Check.refuses("no rod, no such number below", LooksBoundaryTest::mixed, Check.INDEX, x -> x.ifAdded(rod, -10));
        }
    }

    static void promise18NoneIfItCannotBeDone() {
        StuckRods x = new StuckRods();
        x.move(8, 2, 5);
        for (int n = 1; n <= 9; n++) {
            Check.due("add to the full last rod", x.ifAdded(8, n), StuckRods.NONE);
            Check.due("less from the empty rod, all empty behind it but the last", x.ifAdded(7, -n), fewest(n));
            Check.due("less from the empty last rod", new StuckRods().ifAdded(8, -n), StuckRods.NONE);
            Check.due("add to a stuck rod", Given.stuckAt(4, 1, 2).ifAdded(4, n), StuckRods.NONE);
            Check.due("less from a stuck rod", Given.stuckAt(4, 1, 2).ifAdded(4, -n), StuckRods.NONE);
        }
        StuckRods may = Given.stuckAt(5, 1, 2);
        may.set(0);
        Check.due("the next rod may not borrow", may.ifAdded(4, -1), StuckRods.NONE);
        may.set(1);
        Check.due("the next rod may borrow", may.ifAdded(4, -1), 5);
    }

    /** From an empty rod to 10 - n, and 15 to 14 behind it. */
    private static int fewest(int n) {
        int number = 10 - n;
        return 1 + (number >= 5 ? 1 + number - 5 : number);
    }

    static void promise18TellsWhatAddAndLessWouldTake() {
        for (int r = 0; r <= 8; r++) {
            for (int n = 1; n <= 9; n++) {
                tellsWhatIsDone(r, n, LooksBoundaryTest::mixed);
                tellsWhatIsDone(r, n, Given::nothing);
                tellsWhatIsDone(r, n, Given::fill);
            }
        }
    }

    private static void tellsWhatIsDone(int rod, int n, Consumer<StuckRods> given) {
        StuckRods x = Given.behind(0, given);
        int more = x.ifAdded(rod, n);
        int less = x.ifAdded(rod, -n);
        String what = " of " + n + " at the rod " + rod;
        if (more == StuckRods.NONE) {
            Check.throwsThis("add" + what, Check.STATE, () -> x.add(rod, n));
        } else {
            Check.due("add" + what, x.add(rod, n), more);
            x.undo();
        }
        if (less == StuckRods.NONE) {
            Check.throwsThis("less" + what, Check.STATE, () -> x.less(rod, n));
        } else {
            Check.due("less" + what, x.less(rod, n), less);
        }
    }

    static void promise18ChangesNothing() {
        looks("ifAdded", x -> {
            for (int n = -9; n <= 9; n++) {
                x.ifAdded(0, n);
                x.ifAdded(4, n);
                x.ifAdded(8, n);
            }
        });
    }

    // ---- Promise 19: toShow

    static void promise19TheNumberIs0To999999999() {
        StuckRods x = new StuckRods();
        Check.due("toShow(0)", x.toShow(0), 0);
        Check.due("toShow(999999999)", x.toShow(999999999), 9 * 5);
        Given.fill(x);
        Check.due("toShow(0) of 15s", x.toShow(0), 9 * 7);
        Check.due("toShow(999999999) of 15s", x.toShow(999999999), 9 * 2);
        for (int number : new int[] {-1, 1000000000, FARTHEST[0], FARTHEST[1]}) {
            Check.refuses("toShow(" + number + ")", LooksBoundaryTest::mixed, Check.ARGUMENT, y -> y.toShow(number));
        }
    }

    static void promise19EachDigitAtItsRod() {
        int power = 1;
        for (int r = 0; r <= 8; r++) {
            StuckRods x = new StuckRods();
            x.move(r, 1, 2);
            Check.due("7 at the rod " + r, x.toShow(7 * power), 0);
            Check.due("8 at the rod " + r, x.toShow(8 * power), 1);
            power *= 10;
        }
    }

    static void promise19NoneIfSomeRodCannotComeToShowIt() {
        int power = 1;
        for (int r = 0; r <= 8; r++) {
            StuckRods x = Given.stuckAt(r, 0, 3);
            Check.due("the rod " + r + " shows 3 alone", x.toShow(333333333), 8 * 3);
            Check.due("not 4", x.toShow(333333333 + power), StuckRods.NONE);
            Check.due("not 0", x.toShow(333333333 - 3 * power), StuckRods.NONE);
            x.stick(r, 2);
            Check.due("8, if the ones alone are stuck", x.toShow(8 * power), 1);
            power *= 10;
        }
    }

    static void promise19ARodAbove9ThatCannotComeDown() {
        StuckRods x = Given.stuckAt(4, 2, 0);
        Check.due("10, stuck", x.toShow(0), StuckRods.NONE);
        Check.due("10, stuck, whatever the number", x.toShow(100000), StuckRods.NONE);
        x.stick(4, 2);
        Check.due("10, stuck ones", x.toShow(0), 2);
    }

    static void promise19LoansAreLeftAsTheyAre() {
        StuckRods x = Given.withLoan(4, 9);
        Check.due("toShow(0)", x.toShow(0), 0);
        Check.due("toShow(90000)", x.toShow(90000), 5);
        Check.due("the loan", x.rod(4, 3), 109);
    }

    static void promise19ChangesNothing() {
        looks("toShow", x -> {
            x.toShow(0);
            x.toShow(999999999);
            x.toShow(123456789);
        });
    }

    // ---- Promise 20: cheapestLoan

    static void promise20NoneIfNoRodHasALoan() {
        Check.due("new", new StuckRods().cheapestLoan(), StuckRods.NONE);
        StuckRods x = Given.withLoan(4, 2);
        x.pay(4);
        Check.due("paid", x.cheapestLoan(), StuckRods.NONE);
    }

    static void promise20NoneIfNoLoanCanBePaid() {
        StuckRods x = Given.withLoan(8, -1);
        Check.due("below 0 at the empty last rod", x.cheapestLoan(), StuckRods.NONE);
        Given.borrow(x, 1, 3);
        x.stick(1, 3);
        Check.due("and a stuck one", x.cheapestLoan(), StuckRods.NONE);
        x.stick(1, 0);
        Check.due("which is loose again", x.cheapestLoan(), 1);
    }

    static void promise20TheFirstAndTheLastRodWithALoan() {
        for (int r = 1; r <= 8; r++) {
            Check.due("the only one", Given.withLoan(r, 2).cheapestLoan(), r);
            StuckRods below = Given.withLoan(r, -2);
            below.move(r, 0, 2);
            Check.due("the only one, below 0", below.cheapestLoan(), r);
        }
    }

    static void promise20TheFewestMovesNotTheLowestRod() {
        StuckRods x = Given.withLoan(7, 1);
        Given.borrow(x, 3, 2);
        Check.due("1 move at the rod 7, 2 at the rod 3", x.cheapestLoan(), 7);
        StuckRods y = Given.withLoan(7, 5);
        Given.borrow(y, 3, 2);
        Check.due("a loan of 5 takes 1 move, a loan of 2 takes 2", y.cheapestLoan(), 7);
    }

    static void promise20TheMovesOfAllRodsCount() {
        StuckRods x = Given.withLoan(7, 3);
        Given.borrow(x, 3, 4);
        x.move(3, 2, 2);
        x.move(4, 2, 5);
        x.move(5, 2, 5);
        Check.due("12 and 4: 2 moves at the rod 3, 11 behind it", x.ifAdded(3, 4), 2 + 5 + 5 + 1);
        Check.due("3 moves at the rod 7", x.cheapestLoan(), 7);
        x.move(4, 0, 0);
        Check.due("12 and 4: 2 moves at the rod 3, 1 behind it", x.ifAdded(3, 4), 2 + 1);
        Check.due("3 moves each: the lowest", x.cheapestLoan(), 3);
    }

    static void promise20OfSeveralTheLowest() {
        StuckRods x = Given.withLoan(8, 2);
        Check.due("one", x.cheapestLoan(), 8);
        for (int r = 7; r >= 1; r--) {
            Given.borrow(x, r, 2);
            Check.due("two moves each", x.cheapestLoan(), r);
        }
    }

    static void promise20ALoanThatCannotBePaidIsNotCheap() {
        StuckRods x = Given.withLoan(7, 4);
        Given.borrow(x, 3, 1);
        x.stick(3, 3);
        Check.due("the rod 3 is stuck", x.cheapestLoan(), 7);
    }

    static void promise20ChangesNothing() {
        looks("cheapestLoan", StuckRods::cheapestLoan);
    }

    // ---- Promise 21: looseness

    private static void looseIs(StuckRods x, int numbers) {
        double got = x.looseness();
        Check.holds("looseness " + got + " of " + numbers, Double.compare(got, numbers / 144.0) == 0);
    }

    static void promise21TheGreatestIs1() {
        Check.holds("looseness of a new one is 1", new StuckRods().looseness() == 1.0);
        StuckRods x = new StuckRods();
        Given.fill(x);
        Check.holds("looseness of a full one is 1", x.looseness() == 1.0);
    }

    static void promise21TheLowestIs9Of144() {
        StuckRods x = new StuckRods();
        for (int r = 0; r <= 8; r++) {
            x.stick(r, 3);
        }
        Check.holds("looseness of a stuck one is 1/16", x.looseness() == 0.0625);
    }

    static void promise21IsNotRoundedDown() {
        StuckRods x = new StuckRods();
        int numbers = 144;
        for (int r = 0; r <= 8; r++) {
            int mask = 1 + r % 3;
            x.stick(r, mask);
            numbers -= mask == 1 ? 10 : mask == 2 ? 13 : 15;
            looseIs(x, numbers);
        }
    }

    static void promise21ChangesNothing() {
        looks("looseness", StuckRods::looseness);
    }

    // ---- Promise 22: digest

    /** The hash by whole numbers of any size, cut to 64 bits at the end alone. */
    private static long hashOf(List<Long> values) {
        BigInteger hash = BigInteger.valueOf(3299);
        for (long value : values) {
            hash = hash.multiply(BigInteger.valueOf(31)).add(BigInteger.valueOf(value));
        }
        return hash.longValue();
    }

    private static List<Long> valuesOf(StuckRods x, String buffer) {
        List<Long> values = new ArrayList<>();
        for (int what = 0; what <= 7; what++) {
            values.add((long) x.count(what));
        }
        values.add(x.whole());
        for (int r = 0; r <= 8; r++) {
            for (int what = 0; what <= 7; what++) {
                values.add((long) x.rod(r, what));
            }
            for (int show : new int[] {0, 7, 15}) {
                values.add((long) x.moves(r, show));
            }
            for (int n : new int[] {1, 6, -1, -6}) {
                values.add((long) x.ifAdded(r, n));
            }
        }
        values.add((long) x.toShow(0));
        values.add((long) x.toShow(123456789));
        values.add((long) x.cheapestLoan());
        values.add(Double.doubleToLongBits(x.looseness()));
        values.add((long) buffer.length());
        for (char code : buffer.toCharArray()) {
            values.add((long) code);
        }
        return values;
    }

    private static void digestIs(String what, StuckRods x, String buffer) {
        Check.due("digest " + what, x.digest(), hashOf(valuesOf(x, buffer)));
    }

    static void promise22OfANewObject() {
        digestIs("of a new one", new StuckRods(), "");
    }

    static void promise22OfEmptyAndFullRods() {
        StuckRods full = new StuckRods();
        Given.fill(full);
        digestIs("of 15s", full, "");
        for (int r = 0; r <= 8; r++) {
            full.stick(r, 3);
        }
        digestIs("of stuck 15s: NONE many times", full, "");
    }

    static void promise22OfLoansOnBothSides() {
        StuckRods x = Given.withLoan(8, -9);
        digestIs("of a whole number below 0", x, "");
        Given.borrow(x, 3, 9);
        x.move(3, 1, 1);
        digestIs("of loans on both sides", x, "");
        StuckRods great = Given.withLoan(8, 9);
        great.move(8, 2, 5);
        digestIs("of a whole number above the greatest int", great, "");
    }

    static void promise22OfEachLooseness() {
        for (int mask = 1; mask <= 3; mask++) {
            for (int stuck = 1; stuck <= 9; stuck++) {
                StuckRods x = new StuckRods();
                for (int r = 0; r < stuck; r++) {
                    x.stick(r, mask);
                }
                digestIs("with stuck beads", x, "");
            }
        }
    }

    static void promise22OfAnEmptyAndAFullBuffer() {
        StringBuilder buffer = new StringBuilder();
        for (int length = 0; length <= 60; length++) {
            StuckRods x = new StuckRods();
            Given.write(x, buffer.toString());
            digestIs("with a buffer of " + length, x, buffer.toString());
            x.clearBuffer();
            digestIs("with a buffer that is cleared", x, "");
            buffer.append((char) (33 + length * 37 % 94));
        }
    }

    static void promise22OfTheLowestAndTheGreatestCode() {
        StuckRods x = new StuckRods();
        x.append(33);
        digestIs("with the lowest code", x, "!");
        x.append(126);
        digestIs("with the greatest code", x, "!~");
    }

    static void promise22OfTheSavedStatesTheirNumberAlone() {
        StuckRods x = new StuckRods();
        StuckRods y = new StuckRods();
        for (int i = 0; i < 7; i++) {
            x.set(3);
            y.set(i == 6 ? 3 : i);
        }
        Check.due("the digests of two with other saved states", x.digest(), y.digest());
        x.undo();
        x.set(3);
        Check.due("the digest behind undo and the same call", x.digest(), y.digest());
    }

    static void promise22ChangesNothing() {
        looks("digest", StuckRods::digest);
    }

    public static void main(String[] args) {
        Check.runAll(LooksBoundaryTest.class);
    }
}
