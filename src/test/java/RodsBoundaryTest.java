/** A test for each boundary case that the document names: the terms of rods and settings, promises 1 to 4. */
public final class RodsBoundaryTest {
    private static final int[] OUTSIDE_INT = {Integer.MIN_VALUE, Integer.MAX_VALUE};

    private RodsBoundaryTest() {
    }

    // ---- Terms, Rods

    static void termsRodsAreNineNumberedFrom0() {
        StuckRods x = new StuckRods();
        for (int r = 0; r <= 8; r++) {
            x.move(r, (r + 1) / 5, (r + 1) % 5);
        }
        Check.shows("each rod its own", x, "9 8 7 6 5 4 3 2 1");
    }

    static void termsARodShows5TimesItsFivesAndItsOnes0To15() {
        for (int f = 0; f <= 2; f++) {
            for (int o = 0; o <= 5; o++) {
                StuckRods x = new StuckRods();
                x.move(8, f, o);
                Check.rodIs("fives " + f + ", ones " + o, x, 8, f, o, 5 * f + o);
            }
        }
    }

    static void termsLooseBeadsCanComeToShow0To15() {
        for (int f = 0; f <= 2; f++) {
            for (int o = 0; o <= 5; o++) {
                waysAreAsTold(f, o, 0);
            }
        }
    }

    static void termsStuckFivesCannotChange() {
        for (int f = 0; f <= 2; f++) {
            for (int o = 0; o <= 5; o++) {
                waysAreAsTold(f, o, 1);
            }
        }
    }

    static void termsStuckOnesCannotChange() {
        for (int f = 0; f <= 2; f++) {
            for (int o = 0; o <= 5; o++) {
                waysAreAsTold(f, o, 2);
            }
        }
    }

    static void termsAllStuckShowsWhatItShowsAlone() {
        for (int f = 0; f <= 2; f++) {
            for (int o = 0; o <= 5; o++) {
                waysAreAsTold(f, o, 3);
                StuckRods x = Given.stuckAt(4, f, o);
                Check.due("all stuck: numbers", x.rod(4, 7), 1);
            }
        }
    }

    /** moves and rod(r, 7) of a rod with these beads, against all ways with as many beads, one by one. */
    private static void waysAreAsTold(int fives, int ones, int stuck) {
        StuckRods x = new StuckRods();
        x.move(4, fives, ones);
        x.stick(4, stuck);
        int numbers = 0;
        for (int number = 0; number <= 15; number++) {
            int fewest = fewestMoves(fives, ones, stuck, number);
            numbers += fewest < 0 ? 0 : 1;
            Check.due("from " + fives + " and " + ones + ", stuck " + stuck + ": moves(4, " + number + ")", x.moves(4, number), fewest);
        }
        Check.due("from " + fives + " and " + ones + ", stuck " + stuck + ": numbers", x.rod(4, 7), numbers);
    }

    private static int fewestMoves(int fives, int ones, int stuck, int number) {
        int fewest = -1;
        for (int f = 0; f <= 2; f++) {
            for (int o = 0; o <= 5; o++) {
                boolean changesStuck = stuck % 2 == 1 && f != fives || stuck >= 2 && o != ones;
                int moves = Math.abs(f - fives) + Math.abs(o - ones);
                if (5 * f + o == number && !changesStuck && (fewest < 0 || moves < fewest)) {
                    fewest = moves;
                }
            }
        }
        return fewest;
    }

    static void termsWhatItShowsAlreadyItShowsWithNoMoves() {
        for (int stuck = 0; stuck <= 3; stuck++) {
            for (int[] way : new int[][] {{0, 5}, {1, 0}, {1, 5}, {2, 0}, {0, 0}, {2, 5}}) {
                StuckRods x = new StuckRods();
                x.move(8, way[0], way[1]);
                x.stick(8, stuck);
                Check.due("moves to what it shows", x.moves(8, 5 * way[0] + way[1]), 0);
            }
        }
    }

    /** The rod 4 comes by adding n from the one way to the other, with so many moves. */
    private static void comes(int stuck, int fives, int ones, int n, int dueFives, int dueOnes, int dueMoves) {
        StuckRods x = new StuckRods();
        x.move(4, fives, ones);
        x.stick(4, stuck);
        String what = "from " + fives + " and " + ones + " by " + n;
        Check.due(what, n > 0 ? x.add(4, n) : x.less(4, -n), dueMoves);
        Check.rodIs(what, x, 4, dueFives, dueOnes);
    }

    static void termsOfSeveralWaysTheOneWithTheFewestMoves() {
        comes(0, 0, 3, 2, 0, 5, 2);
        comes(0, 0, 1, 4, 1, 0, 2);
        comes(0, 1, 3, 2, 1, 5, 2);
        comes(0, 1, 1, 4, 2, 0, 2);
        comes(0, 0, 4, 6, 1, 5, 2);
        comes(0, 0, 1, 9, 2, 0, 3);
        comes(0, 2, 4, -4, 1, 5, 2);
        comes(0, 2, 1, -1, 2, 0, 1);
        comes(0, 1, 4, -4, 0, 5, 2);
        comes(0, 1, 2, -2, 1, 0, 2);
        comes(0, 2, 4, -9, 0, 5, 3);
        comes(0, 2, 2, -7, 1, 0, 3);
    }

    static void termsOfSeveralWithTheFewestMovesTheOneWithTheMostFives() {
        comes(0, 0, 2, 3, 1, 0, 3);
        comes(0, 1, 2, 3, 2, 0, 3);
        comes(0, 0, 2, 8, 2, 0, 4);
        comes(0, 1, 3, -3, 1, 0, 3);
        comes(0, 2, 3, -3, 2, 0, 3);
        comes(0, 2, 3, -8, 1, 0, 4);
    }

    static void termsOfSeveralWaysThoseThatAreStuckAsTheyAre() {
        comes(1, 0, 2, 3, 0, 5, 3);
        comes(1, 0, 1, 4, 0, 5, 4);
        comes(1, 1, 2, 3, 1, 5, 3);
        comes(1, 1, 4, -4, 1, 0, 4);
        comes(2, 0, 0, 5, 1, 0, 1);
        comes(2, 0, 5, 5, 1, 5, 1);
        comes(2, 2, 5, -5, 1, 5, 1);
    }

    static void termsTheLoanIsAtFirst0() {
        StuckRods x = new StuckRods();
        for (int r = 0; r <= 8; r++) {
            Check.due("the loan of the rod " + r, x.rod(r, 3), 100);
        }
    }

    static void termsTheLoanIsAtMost9() {
        StuckRods x = Given.withLoan(8, 9);
        Check.due("a loan of 9", x.rod(8, 3), 109);
        Check.refuses("a loan of 10", y -> {
            Given.borrow(y, 8, 9);
            y.set(9);
            y.stick(8, 3);
            y.move(7, 2, 5);
        }, Check.STATE, y -> y.add(7, 1));
    }

    static void termsTheLoanIsAtLeastMinus9() {
        StuckRods x = Given.withLoan(8, -9);
        Check.due("a loan of -9", x.rod(8, 3), 91);
        Check.refuses("a loan of -10", y -> {
            Given.borrow(y, 8, -9);
            y.set(9);
            y.stick(8, 3);
        }, Check.STATE, y -> y.less(7, 1));
    }

    // ---- Terms, Settings

    static void termsTheGreatestLoanIsAtFirst3() {
        StuckRods x = Given.stuckAt(1, 0, 0);
        Check.due("the setting", x.count(6), 3);
        for (int loan = 1; loan <= 3; loan++) {
            x.move(0, 2, 5);
            x.add(0, 1);
            Check.due("the loan", x.rod(1, 3), 100 + loan);
        }
        x.move(0, 2, 5);
        Check.throwsThis("a loan of 4", Check.STATE, () -> x.add(0, 1));
    }

    static void termsTheGreatestLoanIsAsSetUpwards() {
        for (int setting = 0; setting <= 9; setting++) {
            StuckRods x = Given.stuckAt(1, 0, 0);
            x.set(setting);
            x.move(0, 2, 5);
            for (int loan = 1; loan <= setting; loan++) {
                x.add(0, 1);
                x.move(0, 2, 5);
            }
            Check.due("the greatest loan", x.rod(1, 3), 100 + setting);
            Check.refuses("a loan above the setting " + setting, x, Check.STATE, () -> x.add(0, 1));
        }
    }

    static void termsTheGreatestLoanIsAsSetDownwards() {
        for (int setting = 0; setting <= 9; setting++) {
            StuckRods x = Given.stuckAt(1, 0, 0);
            x.set(setting);
            for (int loan = 1; loan <= setting; loan++) {
                x.less(0, 1);
                x.move(0, 0, 0);
            }
            Check.due("the lowest loan", x.rod(1, 3), 100 - setting);
            Check.refuses("a loan below the opposite of " + setting, x, Check.STATE, () -> x.less(0, 1));
        }
    }

    // ---- Promise 1

    static void promise1ANewObjectShows0() {
        StuckRods x = new StuckRods();
        Check.shows("new", x, "0 0 0 0 0 0 0 0 0");
        Check.due("new: whole", x.whole(), 0);
        for (int r = 0; r <= 8; r++) {
            Check.rodIs("new", x, r, 0, 0, 0);
        }
    }

    static void promise1NoBeadIsStuck() {
        StuckRods x = new StuckRods();
        Check.due("new: rods of which something is stuck", x.count(5), 0);
        for (int r = 0; r <= 8; r++) {
            Check.due("new: the mask", x.rod(r, 4), 0);
            Check.due("new: all beads are loose", x.move(r, 2, 5), 7);
        }
    }

    static void promise1TheBufferIsEmpty() {
        Check.due("new: firstError", new StuckRods().firstError(), 0);
        Check.due("new: clearBuffer", new StuckRods().clearBuffer(), 0);
        Check.due("new: append", new StuckRods().append('+'), 1);
        Check.throwsThis("new: reckon", Check.ARGUMENT, () -> new StuckRods().reckon());
    }

    static void promise1NothingIsSavedOrCounted() {
        StuckRods x = new StuckRods();
        Check.counts("new", x, 0, 0, 100, 0, 0, 0, 3, 0);
        for (int r = 0; r <= 8; r++) {
            Check.rodIs("new", x, r, 0, 0, 0, 100, 0, 0, 0, 16);
        }
        Check.throwsThis("new: undo", Check.STATE, x::undo);
    }

    static void promise1ObjectsAreApart() {
        StuckRods x = new StuckRods();
        StuckRods other = new StuckRods();
        long before = x.digest();
        other.move(4, 2, 3);
        other.stick(4, 3);
        other.set(9);
        other.append('+');
        Check.due("the one behind calls of the other", x.digest(), before);
        other.undo();
        Check.due("the one has nothing saved", x.count(7), 0);
    }

    // ---- Promise 2: move

    static void promise2TheRodIs0To8() {
        for (int rod : new int[] {0, 8}) {
            StuckRods x = new StuckRods();
            Check.due("move(" + rod + ", 1, 2)", x.move(rod, 1, 2), 3);
            Check.due("the rod", x.rod(rod, 2), 7);
            Check.due("the others", x.count(3), 7);
        }
        for (int rod : Given.NO_RODS) {
            Check.refuses("move(" + rod + ", 1, 2)", Given::nothing, Check.INDEX, x -> x.move(rod, 1, 2));
        }
    }

    static void promise2TheFivesAre0To2() {
        StuckRods x = new StuckRods();
        Check.due("move(4, 2, 0)", x.move(4, 2, 0), 2);
        Check.rodIs("fives 2", x, 4, 2, 0);
        Check.due("move(4, 0, 0)", x.move(4, 0, 0), 2);
        Check.rodIs("fives 0", x, 4, 0, 0);
        for (int fives : new int[] {-1, 3, OUTSIDE_INT[0], OUTSIDE_INT[1]}) {
            Check.refuses("move(4, " + fives + ", 0)", Given::nothing, Check.ARGUMENT, y -> y.move(4, fives, 0));
        }
    }

    static void promise2TheOnesAre0To5() {
        StuckRods x = new StuckRods();
        Check.due("move(4, 0, 5)", x.move(4, 0, 5), 5);
        Check.rodIs("ones 5", x, 4, 0, 5);
        Check.due("move(4, 0, 0)", x.move(4, 0, 0), 5);
        Check.rodIs("ones 0", x, 4, 0, 0);
        for (int ones : new int[] {-1, 6, OUTSIDE_INT[0], OUTSIDE_INT[1]}) {
            Check.refuses("move(4, 0, " + ones + ")", Given::nothing, Check.ARGUMENT, y -> y.move(4, 0, ones));
        }
    }

    static void promise2ReturnsHowManyMovesItTakes() {
        StuckRods x = new StuckRods();
        Check.due("no move", x.move(4, 0, 0), 0);
        Check.due("all beads up", x.move(4, 2, 5), 7);
        Check.due("no move, all up", x.move(4, 2, 5), 0);
        Check.due("fives down and ones down", x.move(4, 1, 3), 3);
        Check.due("fives up and ones down", x.move(4, 2, 0), 4);
        Check.due("fives down and ones up: by hand, not the fewest", x.move(4, 1, 5), 6);
        Check.due("all beads down", x.move(4, 0, 0), 6);
        Check.due("moves of the rod", x.rod(4, 5), 26);
    }

    static void promise2StuckFivesAreRefused() {
        for (int fives : new int[] {0, 2}) {
            Check.refuses("stuck fives, ones as they are", x -> {
                x.move(8, 1, 5);
                x.stick(8, 1);
            }, Check.STATE, x -> x.move(8, fives, 5));
            Check.refuses("stuck fives, loose ones", x -> {
                x.move(8, 1, 5);
                x.stick(8, 1);
            }, Check.STATE, x -> x.move(8, fives, 0));
        }
    }

    static void promise2StuckOnesAreRefused() {
        for (int ones : new int[] {0, 2, 4, 5}) {
            Check.refuses("stuck ones, fives as they are", x -> {
                x.move(0, 1, 3);
                x.stick(0, 2);
            }, Check.STATE, x -> x.move(0, 1, ones));
            Check.refuses("stuck ones, loose fives", x -> {
                x.move(0, 1, 3);
                x.stick(0, 2);
            }, Check.STATE, x -> x.move(0, 2, ones));
        }
    }

    static void promise2WhatIsStuckMayStayAsItIs() {
        StuckRods x = Given.stuckAt(4, 2, 5);
        Check.due("all stuck, all as they are", x.move(4, 2, 5), 0);
        x.stick(4, 1);
        Check.due("stuck fives as they are", x.move(4, 2, 0), 5);
        x.stick(4, 2);
        Check.due("stuck ones as they are", x.move(4, 0, 0), 2);
    }

    static void promise2AnotherRodIsNotStuck() {
        StuckRods x = Given.stuckAt(4, 2, 5);
        Check.due("the rod behind it", x.move(5, 2, 5), 7);
        Check.due("the rod ahead of it", x.move(3, 2, 5), 7);
    }

    static void promise2TheRodIsNamedAheadOfTheBeads() {
        for (int rod : Given.NO_RODS) {
            Check.refuses("no rod, no such fives", Given::nothing, Check.INDEX, x -> x.move(rod, 3, 0));
            Check.refuses("no rod, no such ones", Given::nothing, Check.INDEX, x -> x.move(rod, 0, -1));
        }
    }

    static void promise2TheBeadsAreNamedAheadOfWhatIsStuck() {
        Check.refuses("no such fives, stuck", x -> Given.stickAt(x, 4, 2, 5), Check.ARGUMENT, x -> x.move(4, 3, 5));
        Check.refuses("no such fives below 0, stuck", x -> Given.stickAt(x, 4, 0, 0), Check.ARGUMENT, x -> x.move(4, -1, 0));
        Check.refuses("no such ones, stuck", x -> Given.stickAt(x, 4, 2, 5), Check.ARGUMENT, x -> x.move(4, 2, 6));
        Check.refuses("no such ones below 0, stuck", x -> Given.stickAt(x, 4, 0, 0), Check.ARGUMENT, x -> x.move(4, 0, -1));
        Check.refuses("fives would change, no such ones", x -> Given.stickAt(x, 4, 0, 0), Check.ARGUMENT, x -> x.move(4, 1, 6));
        Check.refuses("no such fives, ones would change", x -> Given.stickAt(x, 4, 0, 0), Check.ARGUMENT, x -> x.move(4, 3, 1));
    }

    static void promise2IsUndoableAlsoIfItChangesNothing() {
        Check.savesOne("move", Given::nothing, x -> x.move(4, 2, 3));
        Check.savesOne("move of nothing", x -> x.move(4, 2, 3), x -> x.move(4, 2, 3));
        Check.savesOne("move of nothing, all stuck", x -> Given.stickAt(x, 4, 1, 1), x -> x.move(4, 1, 1));
    }

    // ---- Promise 3: stick

    static void promise3TheRodIs0To8() {
        for (int rod : new int[] {0, 8}) {
            StuckRods x = new StuckRods();
            Check.due("stick(" + rod + ", 3)", x.stick(rod, 3), 0);
            Check.due("the mask", x.rod(rod, 4), 3);
            Check.due("rods of which something is stuck", x.count(5), 1);
        }
        for (int rod : Given.NO_RODS) {
            Check.refuses("stick(" + rod + ", 1)", Given::nothing, Check.INDEX, x -> x.stick(rod, 1));
        }
    }

    static void promise3TheMaskIs0To3() {
        for (int what = 0; what <= 3; what++) {
            StuckRods x = new StuckRods();
            x.stick(4, what);
            Check.due("the mask", x.rod(4, 4), what);
        }
        for (int what : new int[] {-1, 4, OUTSIDE_INT[0], OUTSIDE_INT[1]}) {
            Check.refuses("stick(4, " + what + ")", Given::nothing, Check.ARGUMENT, x -> x.stick(4, what));
        }
    }

    static void promise3TheMaskIs1ForTheFivesAnd2ForTheOnes() {
        StuckRods x = new StuckRods();
        x.stick(4, 1);
        Check.due("the ones are loose", x.move(4, 0, 5), 5);
        Check.throwsThis("the fives are stuck", Check.STATE, () -> x.move(4, 1, 5));
        x.stick(4, 2);
        Check.due("the fives are loose", x.move(4, 2, 5), 2);
        Check.throwsThis("the ones are stuck", Check.STATE, () -> x.move(4, 2, 4));
    }

    static void promise3TheOthersAreLoose() {
        for (int before = 0; before <= 3; before++) {
            for (int what = 0; what <= 3; what++) {
                StuckRods x = new StuckRods();
                x.stick(4, before);
                Check.due("the previous mask", x.stick(4, what), before);
                Check.due("the mask now", x.rod(4, 4), what);
            }
        }
        StuckRods x = new StuckRods();
        x.stick(4, 3);
        x.stick(4, 0);
        Check.due("all loose again", x.move(4, 2, 5), 7);
    }

    static void promise3TheRodIsNamedAheadOfTheMask() {
        for (int rod : Given.NO_RODS) {
            Check.refuses("no rod, no such mask", Given::nothing, Check.INDEX, x -> x.stick(rod, 4));
            Check.refuses("no rod, no such mask below 0", Given::nothing, Check.INDEX, x -> x.stick(rod, -1));
        }
    }

    static void promise3IsUndoableAlsoIfItChangesNothing() {
        Check.savesOne("stick", Given::nothing, x -> x.stick(8, 3));
        Check.savesOne("stick as it is", x -> x.stick(8, 2), x -> x.stick(8, 2));
        Check.savesOne("stick of nothing", Given::nothing, x -> x.stick(0, 0));
    }

    static void promise3IsNoMove() {
        StuckRods x = new StuckRods();
        x.move(4, 1, 1);
        x.stick(4, 3);
        Check.rodIs("stuck", x, 4, 1, 1, 6, 100, 3, 2, 0, 1);
        Check.due("moves so far", x.count(0), 2);
    }

    // ---- Promise 4: set

    static void promise4TheValueIs0To9() {
        StuckRods x = new StuckRods();
        Check.due("set(0)", x.set(0), 3);
        Check.due("the setting 0", x.count(6), 0);
        Check.due("set(9)", x.set(9), 0);
        Check.due("the setting 9", x.count(6), 9);
        for (int value : new int[] {-1, 10, OUTSIDE_INT[0], OUTSIDE_INT[1]}) {
            Check.refuses("set(" + value + ")", Given::nothing, Check.ARGUMENT, y -> y.set(value));
        }
    }

    static void promise4ReturnsThePreviousValue() {
        StuckRods x = new StuckRods();
        int previous = 3;
        for (int value = 0; value <= 9; value++) {
            Check.due("set(" + value + ")", x.set(value), previous);
            previous = value;
        }
        Check.due("set as it is", x.set(9), 9);
    }

    static void promise4IsUndoableAlsoIfItChangesNothing() {
        Check.savesOne("set", Given::nothing, x -> x.set(9));
        Check.savesOne("set as it is", Given::nothing, x -> x.set(3));
    }

    static void promise4LoansThatAreThereStay() {
        StuckRods x = Given.withLoan(1, 9);
        x.set(0);
        Check.due("a loan of 9 behind set(0)", x.rod(1, 3), 109);
        StuckRods y = Given.withLoan(1, -9);
        y.set(0);
        Check.due("a loan of -9 behind set(0)", y.rod(1, 3), 91);
        Check.due("it can be paid when the rod has enough", y.move(1, 1, 4) + y.pay(1), 5 + 5);
    }

    static void promise4ALoanAboveTheSettingDoesNotGrow() {
        Check.refuses("a loan of 6, of 4 at most", x -> {
            Given.borrow(x, 1, 5);
            x.set(4);
            x.stick(1, 3);
            x.move(0, 2, 5);
        }, Check.STATE, x -> x.add(0, 1));
        Check.refuses("a loan of -6, of -4 at least", x -> {
            Given.borrow(x, 1, -5);
            x.set(4);
            x.stick(1, 3);
        }, Check.STATE, x -> x.less(0, 1));
    }

    static void promise4ALoanAtTheSettingDoesNotGrow() {
        Check.refuses("a loan of 6, of 5 at most", x -> {
            Given.borrow(x, 1, 5);
            x.set(5);
            x.stick(1, 3);
            x.move(0, 2, 5);
        }, Check.STATE, x -> x.add(0, 1));
        Check.refuses("a loan of -6, of -5 at least", x -> {
            Given.borrow(x, 1, -5);
            x.set(5);
            x.stick(1, 3);
        }, Check.STATE, x -> x.less(0, 1));
    }

    /** It is above the setting also then, but a carry of -1 asks only whether it is below the setting's opposite. */
    static void promise4ALoanAboveTheSettingMayComeDown() {
        StuckRods x = Given.withLoan(1, 9);
        x.set(0);
        x.stick(1, 3);
        for (int loan = 8; loan >= 0; loan--) {
            x.move(0, 0, 0);
            x.less(0, 1);
            Check.due("the loan", x.rod(1, 3), 100 + loan);
        }
        x.move(0, 0, 0);
        Check.throwsThis("a loan of -1, of none at most", Check.STATE, () -> x.less(0, 1));
    }

    static void promise4ALoanBelowTheSettingsOppositeMayComeUp() {
        StuckRods x = Given.withLoan(1, -9);
        x.set(0);
        x.stick(1, 3);
        for (int loan = -8; loan <= 0; loan++) {
            x.move(0, 2, 5);
            x.add(0, 1);
            Check.due("the loan", x.rod(1, 3), 100 + loan);
        }
        x.move(0, 2, 5);
        Check.throwsThis("a loan of 1, of none at most", Check.STATE, () -> x.add(0, 1));
    }

    public static void main(String[] args) {
        Check.runAll(RodsBoundaryTest.class);
    }
}
