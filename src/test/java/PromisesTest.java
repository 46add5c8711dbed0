/** The promises of the document, one by one: ordinary inputs, the edges that it names, and wrong inputs. */
public final class PromisesTest {
    private static final Class<IndexOutOfBoundsException> INDEX = Check.INDEX;
    private static final Class<IllegalArgumentException> ARGUMENT = Check.ARGUMENT;
    private static final Class<IllegalStateException> STATE = Check.STATE;
    private static final int[] NO_RODS = Given.NO_RODS;

    private PromisesTest() {
    }

    private static void promise1NewObject() {
        StuckRods x = new StuckRods();
        for (int r = 0; r < 9; r++) {
            Check.rodIs("new", x, r, 0, 0, 0, 100, 0, 0, 0, 16);
        }
        Check.counts("new", x, 0, 0, 100, 0, 0, 0, 3, 0);
        Check.due("new: whole", x.whole(), 0);
        Check.due("new: firstError", x.firstError(), 0);
        Check.due("new: clearBuffer", x.clearBuffer(), 0);
        Check.due("NONE", StuckRods.NONE, -1);
        StuckRods other = new StuckRods();
        other.add(0, 5);
        other.append('+');
        Check.due("new: apart from another one", x.whole(), 0);
        Check.due("new: its buffer apart from another one's", x.clearBuffer(), 0);
    }

    private static void promise2Move() {
        StuckRods x = new StuckRods();
        Check.due("move(4, 1, 3)", x.move(4, 1, 3), 4);
        Check.rodIs("move", x, 4, 1, 3, 8, 100, 0, 4, 0);
        Check.due("move(4, 2, 1)", x.move(4, 2, 1), 3);
        Check.rodIs("move on", x, 4, 2, 1, 11, 100, 0, 7, 0);
        Check.due("move to where it is", x.move(4, 2, 1), 0);
        Check.due("each move is saved", x.count(7), 3);
        Check.due("move(8, 2, 5)", x.move(8, 2, 5), 7);
        Check.due("move(0, 0, 5)", x.move(0, 0, 5), 5);
        Check.shows("moves", x, "15 0 0 0 11 0 0 0 5");
        Check.due("moves are counted", x.count(0), 19);
        x.undo();
        Check.shows("a move undone", x, "15 0 0 0 11 0 0 0 0");
        Check.due("a move undone: moves so far", x.count(0), 14);
        moveStuck();
        moveWrongly();
    }

    private static void moveStuck() {
        StuckRods x = new StuckRods();
        x.move(4, 2, 1);
        x.stick(4, 1);
        Check.refuses("move of stuck fives", x, STATE, () -> x.move(4, 1, 1));
        Check.refuses("move of stuck fives with ones", x, STATE, () -> x.move(4, 0, 5));
        Check.due("move of loose ones", x.move(4, 2, 5), 4);
        x.stick(4, 2);
        Check.refuses("move of stuck ones", x, STATE, () -> x.move(4, 2, 4));
        Check.due("move of loose fives", x.move(4, 0, 5), 2);
        x.stick(4, 3);
        Check.refuses("move of fives, all stuck", x, STATE, () -> x.move(4, 1, 5));
        Check.refuses("move of ones, all stuck", x, STATE, () -> x.move(4, 0, 4));
        Check.due("move of nothing, all stuck", x.move(4, 0, 5), 0);
        Check.due("move of another rod", x.move(3, 1, 1), 2);
        x.stick(4, 0);
        Check.due("move of what is loose again", x.move(4, 1, 0), 6);
    }

    private static void moveWrongly() {
        StuckRods x = Given.stuckAt(2, 1, 1);
        for (int rod : NO_RODS) {
            Check.refuses("move(" + rod + ", 1, 1)", x, INDEX, () -> x.move(rod, 1, 1));
            Check.refuses("move(" + rod + ", 3, 6)", x, INDEX, () -> x.move(rod, 3, 6));
        }
        for (int bad : new int[] {-1, 6, 7, Integer.MIN_VALUE, Integer.MAX_VALUE}) {
            Check.refuses("move(0, " + bad + ", 0)", x, ARGUMENT, () -> x.move(0, bad, 0));
            Check.refuses("move(0, 0, " + bad + ")", x, ARGUMENT, () -> x.move(0, 0, bad));
            Check.refuses("move(2, " + bad + ", 1), stuck", x, ARGUMENT, () -> x.move(2, bad, 1));
            Check.refuses("move(2, 1, " + bad + "), stuck", x, ARGUMENT, () -> x.move(2, 1, bad));
        }
        Check.refuses("move(0, 3, 0)", x, ARGUMENT, () -> x.move(0, 3, 0));
        Check.refuses("move(2, 0, 6), stuck", x, ARGUMENT, () -> x.move(2, 0, 6));
        Check.refuses("move(2, 3, 0), stuck", x, ARGUMENT, () -> x.move(2, 3, 0));
    }

    private static void promise3Stick() {
        StuckRods x = new StuckRods();
        Check.due("stick(0, 1)", x.stick(0, 1), 0);
        Check.due("stick(0, 2)", x.stick(0, 2), 1);
        Check.due("stick(0, 3)", x.stick(0, 3), 2);
        Check.due("stick(0, 3) again", x.stick(0, 3), 3);
        Check.due("stick(8, 0)", x.stick(8, 0), 0);
        Check.rodIs("stick", x, 0, 0, 0, 0, 100, 3, 0, 0, 1);
        Check.due("stick is saved, also if it changes nothing", x.count(7), 5);
        Check.due("stick(0, 0)", x.stick(0, 0), 3);
        x.undo();
        Check.due("stick undone", x.rod(0, 4), 3);
        for (int rod : NO_RODS) {
            Check.refuses("stick(" + rod + ", 1)", x, INDEX, () -> x.stick(rod, 1));
            Check.refuses("stick(" + rod + ", 4)", x, INDEX, () -> x.stick(rod, 4));
        }
        for (int bad : new int[] {-1, 4, 5, 7, Integer.MIN_VALUE, Integer.MAX_VALUE}) {
            Check.refuses("stick(0, " + bad + ")", x, ARGUMENT, () -> x.stick(0, bad));
        }
    }

    private static void promise4Set() {
        StuckRods x = new StuckRods();
        Check.due("set(0)", x.set(0), 3);
        Check.due("set(9)", x.set(9), 0);
        Check.due("set(9) again", x.set(9), 9);
        Check.due("set: count(6)", x.count(6), 9);
        Check.due("set is saved, also if it changes nothing", x.count(7), 3);
        x.undo();
        x.undo();
        Check.due("set undone", x.count(6), 0);
        for (int bad : new int[] {-1, 10, 100, Integer.MIN_VALUE, Integer.MAX_VALUE}) {
            Check.refuses("set(" + bad + ")", x, ARGUMENT, () -> x.set(bad));
        }
        settingBelowLoans();
    }

    /** Loans that are there stay, and a loan that goes towards 0 is not above the setting's bound on the other side. */
    private static void settingBelowLoans() {
        StuckRods x = Given.stuckAt(1, 0, 0);
        x.set(9);
        for (int i = 0; i < 5; i++) {
            x.move(0, 2, 5);
            x.add(0, 5);
        }
        Check.due("loan of 5", x.rod(1, 3), 105);
        x.set(2);
        Check.due("loan of 5 stays", x.rod(1, 3), 105);
        x.move(0, 2, 5);
        Check.refuses("a loan above the setting does not grow", x, STATE, () -> x.add(0, 5));
        x.move(0, 0, 0);
        Check.due("less(0, 5): a loan of 4 is above 2, but not below -2", x.less(0, 5), 1);
        Check.due("a loan of 4", x.rod(1, 3), 104);
    }

    private static void promise5Add() {
        StuckRods x = new StuckRods();
        Check.due("add(0, 7)", x.add(0, 7), 3);
        Check.rodIs("5 and 2", x, 0, 1, 2, 7, 100, 0, 3, 0);
        Check.due("add(0, 3)", x.add(0, 3), 3);
        Check.rodIs("10: 1 and 5 by three moves as 2 and 0 are: the most fives", x, 0, 2, 0, 10, 100, 0, 6, 0);
        Check.due("add(0, 5)", x.add(0, 5), 5);
        Check.due("add(0, 1): 6 with a carry", x.add(0, 1), 1 + 4 + 1);
        Check.shows("with a carry", x, "0 0 0 0 0 0 0 1 6");
        Check.due("add is saved", x.count(7), 4);
        Check.due("moves of add", x.count(0), 17);
        addByCarries();
        addByLoans();
        addEndless();
        addWrongly();
    }

    private static void addByCarries() {
        StuckRods x = new StuckRods();
        for (int r = 0; r < 8; r++) {
            x.move(r, 2, 5);
        }
        Check.due("add(0, 9) through all rods", x.add(0, 9), 1 + 7 * 5 + 1);
        Check.shows("through all rods", x, "1 6 6 6 6 6 6 6 14");
        Check.due("through all rods: no loan", x.count(1), 0);
        StuckRods y = new StuckRods();
        y.move(0, 2, 5);
        y.move(1, 2, 4);
        Check.due("a carry that the next rod shows as 15", y.add(0, 5), 2);
        Check.shows("a carry that the next rod shows as 15", y, "0 0 0 0 0 0 0 15 10");
    }

    private static void addByLoans() {
        StuckRods x = Given.stuckAt(1, 1, 2);
        for (int loan = 1; loan <= 3; loan++) {
            x.move(0, 2, 0);
            Check.due("add(0, 6) with a loan", x.add(0, 6), 2);
            Check.rodIs("a loan", x, 1, 1, 2, 7, 100 + loan, 3, 3, loan, 1);
        }
        x.move(0, 2, 0);
        Check.refuses("add(0, 6): the loan would be 4", x, STATE, () -> x.add(0, 6));
        Check.due("add(0, 5): needs no carry", x.add(0, 5), 5);
        Check.due("whole with a loan", x.whole(), 15 + 10 * (7 + 3));
        x.set(4);
        Check.due("add(0, 9): the loan may be 4", x.add(0, 9), 1);
        Check.due("a loan of 4", x.rod(1, 3), 104);
        StuckRods none = Given.stuckAt(1, 0, 0);
        none.set(0);
        none.move(0, 2, 5);
        Check.refuses("add(0, 1): no loan at all", none, STATE, () -> none.add(0, 1));
    }

    /** The first way that a rod can come by is taken, though its carry fails, and nothing stays of the rods ahead. */
    private static void addEndless() {
        StuckRods x = new StuckRods();
        x.move(8, 2, 5);
        Check.refuses("add(8, 1): no rod behind the last one", x, STATE, () -> x.add(8, 1));
        for (int r = 0; r < 8; r++) {
            x.move(r, 2, 5);
        }
        Check.refuses("add(0, 1): no rod behind the last one, and no going back", x, STATE, () -> x.add(0, 1));
        Check.shows("add(0, 1) failed", x, "15 15 15 15 15 15 15 15 15");
        StuckRods y = new StuckRods();
        y.move(1, 0, 4);
        y.stick(1, 3);
        Check.refuses("add(1, 1): the rod itself does not borrow", y, STATE, () -> y.add(1, 1));
        y.stick(1, 1);
        y.move(1, 0, 5);
        Check.refuses("add(1, 1), fives stuck: neither 6 nor -4", y, STATE, () -> y.add(1, 1));
        Check.due("add(1, 9), fives stuck: 4 and a carry", y.add(1, 9), 1 + 1);
        StuckRods z = Given.stuckAt(8, 1, 1);
        z.move(7, 2, 5);
        Check.due("add(7, 1): the last rod borrows", z.add(7, 1), 5);
        Check.due("add(7, 1): its loan", z.rod(8, 3), 101);
    }

    private static void addWrongly() {
        StuckRods x = Given.stuckAt(8, 2, 5);
        for (int rod : NO_RODS) {
            Check.refuses("add(" + rod + ", 1)", x, INDEX, () -> x.add(rod, 1));
            Check.refuses("add(" + rod + ", 0)", x, INDEX, () -> x.add(rod, 0));
        }
        for (int bad : new int[] {0, -1, 10, Integer.MIN_VALUE, Integer.MAX_VALUE}) {
            Check.refuses("add(0, " + bad + ")", x, ARGUMENT, () -> x.add(0, bad));
            Check.refuses("add(8, " + bad + "), which cannot be done", x, ARGUMENT, () -> x.add(8, bad));
        }
    }

    private static void promise6Less() {
        StuckRods x = new StuckRods();
        x.move(0, 1, 3);
        x.move(1, 0, 2);
        Check.due("less(0, 3)", x.less(0, 3), 3);
        Check.due("less(0, 6): 9 and a carry of -1", x.less(0, 6), 4 + 1);
        Check.shows("less", x, "0 0 0 0 0 0 0 1 9");
        Check.due("less is saved", x.count(7), 4);
        x.undo();
        Check.shows("less undone", x, "0 0 0 0 0 0 0 2 5");
        lessByCarries();
        lessByLoans();
        lessWrongly();
    }

    private static void lessByCarries() {
        StuckRods x = new StuckRods();
        x.move(8, 0, 1);
        Check.due("less(0, 1) through all rods", x.less(0, 1), 8 * 5 + 1);
        Check.shows("through all rods", x, "0 9 9 9 9 9 9 9 9");
        StuckRods y = new StuckRods();
        Check.refuses("less(0, 1): no rod behind the last one", y, STATE, () -> y.less(0, 1));
        Check.refuses("less(8, 9): no rod behind the last one", y, STATE, () -> y.less(8, 9));
        y.move(8, 1, 5);
        Check.due("less(8, 9)", y.less(8, 9), 5);
        Check.shows("less(8, 9)", y, "1 0 0 0 0 0 0 0 0");
    }

    private static void lessByLoans() {
        StuckRods x = Given.stuckAt(1, 0, 0);
        for (int loan = 1; loan <= 3; loan++) {
            x.move(0, 0, 0);
            Check.due("less(0, 6) with a loan", x.less(0, 6), 4);
            Check.rodIs("a loan of less", x, 1, 0, 0, 0, 100 - loan, 3, 0, loan, 1);
        }
        x.move(0, 0, 0);
        Check.refuses("less(0, 6): the loan would be -4", x, STATE, () -> x.less(0, 6));
        Check.due("whole below 0", x.whole(), -30);
        Check.due("count(3) below 0", x.count(3), 6);
        x.set(9);
        Check.due("less(0, 6): the loan may be -4", x.less(0, 6), 4);
        Check.due("a loan of -4", x.rod(1, 3), 96);
        x.set(1);
        x.move(0, 2, 5);
        Check.due("add(0, 9): the loan -3 is not above 1", x.add(0, 9), 1);
        Check.due("a loan of -3", x.rod(1, 3), 97);
        Check.due("changes of the loan", x.rod(1, 6), 5);
        StuckRods y = Given.stuckAt(4, 1, 0);
        Check.refuses("less(4, 1): the rod itself does not borrow", y, STATE, () -> y.less(4, 1));
    }

    private static void lessWrongly() {
        StuckRods x = new StuckRods();
        for (int rod : NO_RODS) {
            Check.refuses("less(" + rod + ", 1)", x, INDEX, () -> x.less(rod, 1));
            Check.refuses("less(" + rod + ", 10)", x, INDEX, () -> x.less(rod, 10));
        }
        for (int bad : new int[] {0, -1, 10, Integer.MIN_VALUE, Integer.MAX_VALUE}) {
            Check.refuses("less(0, " + bad + ")", x, ARGUMENT, () -> x.less(0, bad));
        }
    }

    private static void promise7Pay() {
        StuckRods x = Given.withLoan(1, 2);
        Check.rodIs("a loan of 2", x, 1, 0, 0, 0, 102, 0, 0, 2);
        Check.due("pay(1)", x.pay(1), 2);
        Check.rodIs("paid", x, 1, 0, 2, 2, 100, 0, 2, 2);
        Check.due("whole behind pay", x.whole(), 20);
        x.undo();
        Check.rodIs("pay undone", x, 1, 0, 0, 0, 102, 0, 0, 2);
        StuckRods none = new StuckRods();
        Check.due("pay of no loan", none.pay(1), 0);
        Check.due("pay of no loan is saved", none.count(7), 1);
        StuckRods below = Given.withLoan(1, -2);
        Check.refuses("pay: 0 less 2 to the last rod", below, STATE, () -> below.pay(1));
        below.move(1, 1, 0);
        Check.due("pay of a loan below 0", below.pay(1), 4);
        Check.shows("pay of a loan below 0", below, "0 0 0 0 0 0 0 3 0");
        Check.due("pay of a loan below 0: no loan", below.count(1), 0);
        payByLoans();
        payWrongly();
    }

    /** Paying the rod 1 back makes the rod 2 borrow; that loan counts as one by carries, the payment does not. */
    private static void payByLoans() {
        StuckRods x = Given.withLoan(1, 1);
        x.move(1, 2, 5);
        x.stick(2, 3);
        Check.due("pay(1): 6 with a carry", x.pay(1), 5);
        Check.rodIs("pay by a loan", x, 1, 1, 1, 6, 100, 0, 12, 1);
        Check.rodIs("the loan that came by it", x, 2, 0, 0, 0, 101, 3, 0, 1);
        StuckRods y = Given.withLoan(1, -1);
        y.stick(2, 3);
        Check.due("pay(1) below 0: 9 with a carry of -1", y.pay(1), 5);
        Check.rodIs("the loan below 0 that came by it", y, 2, 0, 0, 0, 99, 3, 0, 1);
        Check.due("pay by a loan below 0: loans", y.count(2), 99);
    }

    private static void payWrongly() {
        StuckRods x = Given.withLoan(8, 3);
        for (int rod : NO_RODS) {
            Check.refuses("pay(" + rod + ")", x, INDEX, () -> x.pay(rod));
        }
        x.stick(8, 3);
        Check.refuses("pay of a stuck rod", x, STATE, () -> x.pay(8));
        x.stick(8, 0);
        x.move(8, 2, 5);
        Check.refuses("pay with a carry behind the last rod", x, STATE, () -> x.pay(8));
        x.move(8, 2, 2);
        Check.due("pay to 15", x.pay(8), 3);
        StuckRods y = Given.withLoan(1, 1);
        y.stick(1, 3);
        Check.due("pay(2): no loan, all stuck", y.pay(2), 0);
        y.set(0);
        y.stick(1, 0);
        y.move(1, 2, 5);
        y.stick(2, 3);
        Check.refuses("pay: the next rod may not borrow", y, STATE, () -> y.pay(1));
    }

    private static void promise8Tidy() {
        StuckRods x = new StuckRods();
        Check.due("tidy of nothing", x.tidy(), 0);
        Check.due("tidy of nothing is saved", x.count(7), 1);
        x.move(0, 2, 3);
        x.move(1, 2, 0);
        x.move(8, 2, 5);
        int before = x.count(7);
        Check.due("tidy", x.tidy(), (2 + 1) + (2 + 1));
        Check.shows("tidy", x, "15 0 0 0 0 0 1 1 3");
        Check.due("tidy is saved once", x.count(7), before + 1);
        x.undo();
        Check.shows("tidy undone", x, "15 0 0 0 0 0 0 10 13");
        tidyOfNine();
        tidyOfLoans();
        tidyWhereItCan();
    }

    private static void tidyOfNine() {
        StuckRods x = new StuckRods();
        x.move(3, 1, 4);
        x.move(4, 2, 0);
        Check.due("tidy leaves 9, not 10", x.tidy(), 3);
        Check.shows("tidy leaves 9, not 10", x, "0 0 0 1 0 9 0 0 0");
    }

    private static void tidyOfLoans() {
        StuckRods x = Given.withLoan(1, 2);
        x.move(1, 1, 4);
        Check.due("tidy pays to 11 and then orders", x.tidy(), 4 + 2 + 1);
        Check.rodIs("tidy pays and orders", x, 1, 0, 1, 1, 100, 0, 5 + 4 + 2, 2);
        Check.shows("tidy pays and orders", x, "0 0 0 0 0 0 1 1 0");
        StuckRods y = Given.withLoan(1, 1);
        y.move(1, 2, 5);
        y.stick(2, 3);
        y.move(0, 2, 0);
        y.stick(0, 3);
        Check.due("tidy: the rod 0 is stuck, the rod 1 pays with a loan to the rod 2", y.tidy(), 5);
        Check.due("the rod 1 paid", y.rod(1, 3), 100);
        Check.due("the rod 2 borrowed", y.rod(2, 3), 101);
        Check.due("the rod 0 as it was", y.rod(0, 2), 10);
        y.stick(2, 0);
        Check.due("tidy pays the rod 2 then", y.tidy(), 1);
        Check.due("tidy paid the rod 2", y.count(1), 0);
    }

    private static void tidyWhereItCan() {
        StuckRods x = Given.withLoan(1, 1);
        x.move(1, 2, 5);
        x.stick(1, 2);
        Check.due("tidy: no 16, no 6, but 5 with a carry", x.tidy(), 2 + 1);
        Check.rodIs("not paid, but in order", x, 1, 0, 5, 5, 101);
        Check.shows("not paid, but in order", x, "0 0 0 0 0 0 1 5 0");
        StuckRods y = Given.stuckAt(1, 0, 3);
        y.set(0);
        y.move(0, 2, 2);
        Check.due("tidy: the carry cannot be done", y.tidy(), 0);
        Check.shows("tidy: the carry cannot be done", y, "0 0 0 0 0 0 0 3 12");
        y.set(1);
        Check.due("tidy: the next rod borrows", y.tidy(), 2);
        Check.rodIs("tidy: the next rod borrows, and cannot pay", y, 1, 0, 3, 3, 101, 3, 3, 1);
    }

    private static void promise9Append() {
        StuckRods x = new StuckRods();
        Check.due("append(33)", x.append(33), 1);
        Check.due("append(126)", x.append(126), 2);
        for (int bad : new int[] {32, 127, 0, -1, 128, 43 + 65536, Integer.MIN_VALUE, Integer.MAX_VALUE}) {
            Check.refuses("append(" + bad + ")", x, ARGUMENT, () -> x.append(bad));
        }
        for (int length = 3; length <= 60; length++) {
            Check.due("append", x.append('0' + length % 10), length);
        }
        Check.refuses("append of the 61st", x, STATE, () -> x.append('+'));
        Check.refuses("append of a wrong 61st", x, ARGUMENT, () -> x.append(32));
        Check.due("append saves nothing", x.count(7), 0);
        Check.due("the buffer is full", x.clearBuffer(), 60);
    }

    private static void promise10ClearBuffer() {
        StuckRods x = new StuckRods();
        x.add(0, 1);
        Given.write(x, "+12");
        Check.due("clearBuffer", x.clearBuffer(), 3);
        Check.due("clearBuffer again", x.clearBuffer(), 0);
        Check.due("clearBuffer saves nothing", x.count(7), 1);
        Check.due("append behind clearBuffer", x.append('-'), 1);
        Check.due("the rods stay", x.whole(), 1);
        Check.due("firstError behind clearBuffer", x.firstError(), 1);
    }

    private static void errorAt(String text, int due) {
        StuckRods x = new StuckRods();
        Given.write(x, text);
        long before = x.digest();
        Check.due("firstError of " + text, x.firstError(), due);
        Check.due("firstError changes nothing", x.digest(), before);
    }

    private static void promise11FirstError() {
        errorAt("", 0);
        errorAt("+", 1);
        errorAt("-", 1);
        errorAt("+1", 2);
        errorAt("-0", 2);
        errorAt("1", 0);
        errorAt("0+1", 0);
        errorAt("x", 0);
        errorAt("+x", 1);
        errorAt("++", 1);
        errorAt("+-1", 1);
        errorAt("-+", 1);
        errorAt("+1+", 3);
        errorAt("+1+-", 3);
        errorAt("+00", 2);
        errorAt("+01", 2);
        errorAt("-0-0", 4);
        errorAt("+1-05", 4);
        errorAt("+100000", 7);
        errorAt("+1000000", 7);
        errorAt("+999999-123456", 14);
        errorAt("+999999-1234567", 14);
        errorAt("+12/", 3);
        errorAt("+12:", 3);
        errorAt("+12,5", 3);
        errorAt("+12.5", 3);
        errorAt("+1*2", 2);
        errorAt("+9z+++", 2);
        String full = "+1".repeat(30);
        errorAt(full, 60);
        errorAt("+11" + "+1".repeat(28) + "+", 60);
        errorAt("+11" + "+1".repeat(28) + "x", 59);
    }

    private static void promise12Reckon() {
        StuckRods x = new StuckRods();
        Given.write(x, "+307-21+0");
        Check.due("reckon", x.reckon(), 6);
        Check.due("reckon: whole", x.whole(), 286);
        Check.shows("reckon", x, "0 0 0 0 0 0 2 8 6");
        Check.due("reckon clears the buffer", x.clearBuffer(), 0);
        Check.due("reckon is saved once", x.count(7), 1);
        Check.due("reckon: moves", x.count(0), (3 + 3) + (1 + 4 + 1));
        Check.due("reckon undone", x.undo(), 0);
        Check.due("reckon undone: whole", x.whole(), 0);
        Check.due("reckon undone: the buffer stays clear", x.clearBuffer(), 0);
        Given.write(x, "+987654");
        Check.due("reckon of six digits", x.reckon(), 6);
        Check.due("reckon of six digits: whole", x.whole(), 987654);
        reckonUpTo();
        reckonWrongly();
    }

    private static void reckonUpTo() {
        StuckRods x = new StuckRods();
        Given.write(x, "-5");
        Check.due("reckon of nothing", x.reckon(), 0);
        Check.due("reckon of nothing is saved", x.count(7), 1);
        Check.due("reckon of nothing clears the buffer", x.clearBuffer(), 0);
        Given.write(x, "+35-40+2");
        Check.due("reckon up to the 4: the 0 is done, the 4 is not, and nothing behind it", x.reckon(), 3);
        Check.due("reckon up to the 4: whole", x.whole(), 35);
        Check.due("reckon up to the 4 clears the buffer", x.clearBuffer(), 0);
        x.stick(1, 3);
        Given.write(x, "+111");
        Check.due("reckon up to the stuck rod", x.reckon(), 1);
        Check.due("reckon up to the stuck rod: whole", x.whole(), 36);
        Given.write(x, "+101");
        Check.due("reckon of 0 at the stuck rod", x.reckon(), 3);
        Check.due("reckon of 0 at the stuck rod: whole", x.whole(), 137);
        Given.write(x, "-0-0+0");
        Check.due("reckon of zeros", x.reckon(), 3);
    }

    private static void reckonWrongly() {
        for (String text : new String[] {"", "+", "5", "+1-", "+01", "++1", "+1000000", "+1x", "-12+3-"}) {
            StuckRods x = new StuckRods();
            x.add(3, 4);
            Given.write(x, text);
            Check.refuses("reckon of " + text, x, ARGUMENT, x::reckon);
            Check.due("reckon of " + text + " leaves the buffer", x.clearBuffer(), text.length());
        }
        StuckRods y = new StuckRods();
        Given.write(y, "+1".repeat(30));
        Check.due("reckon of a full buffer: 15, then 6 and a carry", y.reckon(), 30);
        Check.due("reckon of a full buffer: whole", y.whole(), 30);
    }

    private static void promise13Undo() {
        StuckRods x = new StuckRods();
        Check.refuses("undo of nothing", x, STATE, x::undo);
        x.set(7);
        x.move(0, 2, 5);
        x.stick(1, 3);
        x.add(0, 9);
        long before = x.digest();
        x.pay(2);
        x.append('+');
        x.clearBuffer();
        Check.due("undo of pay", x.undo(), 4);
        Check.due("undo of pay: the digest", x.digest(), before);
        x.append('-');
        Check.due("undo of add", x.undo(), 3);
        Check.rodIs("undo of add", x, 1, 0, 0, 0, 100, 3, 0, 0, 1);
        Check.rodIs("undo of add", x, 0, 2, 5, 15, 100, 0, 7, 0, 16);
        Check.due("undo of stick", x.undo(), 2);
        Check.due("undo of stick: loose", x.rod(1, 4), 0);
        Check.due("undo of move", x.undo(), 1);
        Check.due("undo of move: moves so far", x.count(0), 0);
        Check.due("undo of set", x.undo(), 0);
        Check.due("undo of set: the setting", x.count(6), 3);
        Check.refuses("undo of all", x, STATE, x::undo);
        Check.due("undo leaves the buffer", x.clearBuffer(), 1);
        undoOfSix();
        undoOfRefused();
    }

    private static void undoOfSix() {
        StuckRods x = new StuckRods();
        for (int i = 1; i <= 9; i++) {
            x.add(0, 1);
            Check.due("at most 6 states are saved", x.count(7), i < 6 ? i : 6);
        }
        for (int left = 5; left >= 0; left--) {
            Check.due("undo", x.undo(), left);
            Check.due("undo from the latest on", x.whole(), 3 + left);
        }
        Check.refuses("undo of the oldest ones, which are dropped", x, STATE, x::undo);
        for (int i = 0; i < 20; i++) {
            x.add(1 + i / 9, 1);
        }
        x.undo();
        x.undo();
        Check.due("undo of two of 20", x.whole(), 3 + 990);
        x.add(0, 4);
        Check.due("saved again", x.count(7), 5);
        for (int left = 4; left >= 0; left--) {
            Check.due("undo across the six", x.undo(), left);
            Check.due("undo across the six: whole", x.whole(), left == 4 ? 3 + 990 : 3 + 90 + 100 * (5 + left));
        }
    }

    private static void undoOfRefused() {
        StuckRods x = Given.stuckAt(8, 0, 0);
        Check.refuses("a call that throws saves nothing", x, STATE, () -> x.add(8, 1));
        Check.due("undo of stick", x.undo(), 1);
        Check.due("loose again", x.rod(8, 4), 0);
    }

    private static void promise14Rod() {
        StuckRods x = Given.withLoan(1, -2);
        x.move(1, 1, 4);
        x.stick(1, 2);
        Check.rodIs("rod", x, 1, 1, 4, 9, 98, 2, 5, 2, 3);
        x.stick(1, 1);
        Check.rodIs("rod", x, 1, 1, 4, 9, 98, 1, 5, 2, 6);
        x.stick(1, 3);
        Check.rodIs("rod", x, 1, 1, 4, 9, 98, 3, 5, 2, 1);
        Check.rodIs("rod", x, 8, 0, 0, 0, 100, 0, 0, 0, 16);
        x.stick(1, 0);
        x.pay(1);
        Check.rodIs("a payment is no change by a carry", x, 1, 1, 2, 7, 100, 0, 7, 2, 16);
        for (int rod : NO_RODS) {
            Check.refuses("rod(" + rod + ", 0)", x, INDEX, () -> x.rod(rod, 0));
            Check.refuses("rod(" + rod + ", 8)", x, INDEX, () -> x.rod(rod, 8));
        }
        for (int bad : new int[] {-1, 8, 9, Integer.MIN_VALUE, Integer.MAX_VALUE}) {
            Check.refuses("rod(0, " + bad + ")", x, ARGUMENT, () -> x.rod(0, bad));
        }
    }

    private static void promise15Whole() {
        StuckRods x = new StuckRods();
        for (int r = 0; r < 9; r++) {
            x.move(r, 2, 5);
        }
        Check.due("whole of 15s", x.whole(), 1666666665L);
        StuckRods y = Given.withLoan(8, 9);
        Check.due("whole of a loan", y.whole(), 900000000L);
        y.move(8, 2, 5);
        Check.due("whole of 24 at the last rod", y.whole(), 2400000000L);
        StuckRods z = Given.withLoan(8, -9);
        Check.due("whole below 0", z.whole(), -900000000L);
        z.move(7, 0, 5);
        Check.due("whole below 0 with another rod", z.whole(), -850000000L);
    }

    private static void promise16Count() {
        StuckRods x = Given.withLoan(1, 2);
        Given.borrow(x, 4, -5);
        x.move(7, 2, 1);
        x.move(8, 1, 5);
        x.move(6, 1, 4);
        x.stick(7, 1);
        x.stick(5, 2);
        x.stick(3, 3);
        Check.counts("count", x, sumOfMoves(x), 2, 97, (11 + 10 + 9 + 2 - 5) % 9, 2, 3, 3, 6);
        StuckRods y = Given.withLoan(1, -9);
        Check.counts("count of a loan of -9", y, sumOfMoves(y), 1, 91, 0, 0, 0, 3, 6);
        y.move(1, 0, 1);
        Check.due("count(3) of -8", y.count(3), 1);
        StuckRods z = Given.withLoan(1, 9);
        Check.due("count(2) of 9", z.count(2), 109);
        for (int r = 0; r < 9; r++) {
            StuckRods one = new StuckRods();
            one.move(r, 2, 2);
            one.stick(r, r % 3 + 1);
            Check.counts("count of the rod " + r, one, 4, 0, 100, 3, 1, 1, 3, 2);
        }
        for (int r = 1; r < 9; r++) {
            Check.due("count(1) of the rod " + r, Given.withLoan(r, 2).count(1), 1);
            Check.due("count(2) of the rod " + r, Given.withLoan(r, -2).count(2), 98);
            Check.due("count(3) of the rod " + r, Given.withLoan(r, -2).count(3), 7);
        }
        for (int bad : new int[] {-1, 8, 9, Integer.MIN_VALUE, Integer.MAX_VALUE}) {
            Check.refuses("count(" + bad + ")", x, ARGUMENT, () -> x.count(bad));
        }
    }

    private static int sumOfMoves(StuckRods x) {
        int sum = 0;
        for (int r = 0; r < 9; r++) {
            sum += x.rod(r, 5);
        }
        return sum;
    }

    private static void movesAre(String what, StuckRods x, int rod, int... due) {
        for (int show = 0; show <= 15; show++) {
            Check.due(what + ": moves(" + rod + ", " + show + ")", x.moves(rod, show), due[show]);
        }
    }

    private static void promise17Moves() {
        StuckRods x = new StuckRods();
        movesAre("from 0 and 0", x, 0, 0, 1, 2, 3, 4, 1, 2, 3, 4, 5, 2, 3, 4, 5, 6, 7);
        x.move(8, 0, 5);
        movesAre("from 0 and 5", x, 8, 5, 4, 3, 2, 1, 0, 5, 4, 3, 2, 1, 6, 5, 4, 3, 2);
        x.stick(8, 1);
        movesAre("from 0 and 5, fives stuck", x, 8, 5, 4, 3, 2, 1, 0, -1, -1, -1, -1, -1, -1, -1, -1, -1, -1);
        x.stick(8, 2);
        movesAre("from 0 and 5, ones stuck", x, 8, -1, -1, -1, -1, -1, 0, -1, -1, -1, -1, 1, -1, -1, -1, -1, 2);
        x.stick(8, 3);
        movesAre("from 0 and 5, all stuck", x, 8, -1, -1, -1, -1, -1, 0, -1, -1, -1, -1, -1, -1, -1, -1, -1, -1);
        x.move(4, 1, 2);
        x.stick(4, 2);
        movesAre("from 1 and 2, ones stuck", x, 4, -1, -1, 1, -1, -1, -1, -1, 0, -1, -1, -1, -1, 1, -1, -1, -1);
        long before = x.digest();
        x.moves(4, 2);
        Check.due("moves changes nothing", x.digest(), before);
        for (int rod : NO_RODS) {
            Check.refuses("moves(" + rod + ", 0)", x, INDEX, () -> x.moves(rod, 0));
            Check.refuses("moves(" + rod + ", 16)", x, INDEX, () -> x.moves(rod, 16));
        }
        for (int bad : new int[] {-1, 16, Integer.MIN_VALUE, Integer.MAX_VALUE}) {
            Check.refuses("moves(0, " + bad + ")", x, ARGUMENT, () -> x.moves(0, bad));
        }
    }

    private static void promise18IfAdded() {
        StuckRods x = new StuckRods();
        x.move(0, 2, 5);
        x.move(1, 2, 4);
        x.stick(2, 3);
        long before = x.digest();
        Check.due("ifAdded(0, 0)", x.ifAdded(0, 0), 0);
        Check.due("ifAdded(2, 0), stuck", x.ifAdded(2, 0), 0);
        Check.due("ifAdded(0, 9)", x.ifAdded(0, 9), 1 + 1);
        Check.due("ifAdded(1, 7) with a loan", x.ifAdded(1, 7), 3);
        Check.due("ifAdded(0, -9)", x.ifAdded(0, -9), 5);
        Check.due("ifAdded(2, 1), stuck", x.ifAdded(2, 1), -1);
        Check.due("ifAdded(3, -1)", x.ifAdded(3, -1), -1);
        Check.due("ifAdded(8, 9)", x.ifAdded(8, 9), 5);
        Check.due("ifAdded changes nothing", x.digest(), before);
        Check.due("add does as ifAdded tells", x.add(1, 7), 3);
        for (int rod : NO_RODS) {
            Check.refuses("ifAdded(" + rod + ", 0)", x, INDEX, () -> x.ifAdded(rod, 0));
            Check.refuses("ifAdded(" + rod + ", 10)", x, INDEX, () -> x.ifAdded(rod, 10));
        }
        for (int bad : new int[] {-10, 10, Integer.MIN_VALUE, Integer.MAX_VALUE}) {
            Check.refuses("ifAdded(0, " + bad + ")", x, ARGUMENT, () -> x.ifAdded(0, bad));
        }
    }

    private static void promise19ToShow() {
        StuckRods x = new StuckRods();
        Check.due("toShow(0)", x.toShow(0), 0);
        Check.due("toShow(999999999)", x.toShow(999999999), 45);
        Check.due("toShow(500000001)", x.toShow(500000001), 2);
        x.move(0, 0, 5);
        x.move(8, 2, 5);
        Check.due("toShow(5): the rod 0 shows it", x.toShow(5), 7);
        Check.due("toShow(900000000)", x.toShow(900000000), 5 + 2);
        x.stick(8, 2);
        Check.due("toShow(5): the ones of the rod 8 are stuck", x.toShow(5), -1);
        Check.due("toShow(500000005)", x.toShow(500000005), 2);
        StuckRods loans = Given.withLoan(1, 3);
        Check.due("toShow leaves loans as they are", loans.toShow(0), 0);
        x.stick(0, 3);
        Check.due("toShow(500000004): the rod 0 is stuck", x.toShow(500000004), -1);
        for (int bad : new int[] {-1, 1000000000, Integer.MIN_VALUE, Integer.MAX_VALUE}) {
            Check.refuses("toShow(" + bad + ")", x, ARGUMENT, () -> x.toShow(bad));
        }
    }

    private static void promise20CheapestLoan() {
        StuckRods x = new StuckRods();
        Check.due("cheapestLoan of none", x.cheapestLoan(), -1);
        Given.borrow(x, 2, 3);
        Given.borrow(x, 5, 2);
        Given.borrow(x, 8, 2);
        long before = x.digest();
        Check.due("cheapestLoan, of two the lowest", x.cheapestLoan(), 5);
        Check.due("cheapestLoan changes nothing", x.digest(), before);
        x.stick(5, 3);
        Check.due("cheapestLoan: the rod 5 is stuck", x.cheapestLoan(), 8);
        x.move(8, 2, 5);
        Check.due("cheapestLoan: the rod 8 is full", x.cheapestLoan(), 2);
        x.stick(2, 3);
        Check.due("cheapestLoan: none can be paid", x.cheapestLoan(), -1);
        StuckRods y = Given.withLoan(3, -1);
        Check.due("cheapestLoan below 0 that cannot be paid", y.cheapestLoan(), -1);
        y.move(3, 0, 1);
        Check.due("cheapestLoan below 0", y.cheapestLoan(), 3);
        Given.borrow(y, 1, 5);
        Check.due("cheapestLoan: one move each, the lowest", y.cheapestLoan(), 1);
    }

    private static void promise21Looseness() {
        StuckRods x = new StuckRods();
        looseIs(x, 144);
        x.stick(0, 1);
        looseIs(x, 134);
        x.stick(1, 2);
        looseIs(x, 121);
        x.stick(2, 3);
        looseIs(x, 106);
        for (int r = 0; r < 9; r++) {
            x.stick(r, 3);
        }
        looseIs(x, 9);
    }

    private static void looseIs(StuckRods x, int numbers) {
        double got = x.looseness();
        Check.holds("looseness " + got + " of " + numbers, got == numbers / 144.0);
    }

    private static long digestOf(StuckRods x, String buffer) {
        int[] shows = {0, 7, 15};
        int[] adds = {1, 6, -1, -6};
        long hash = 3299;
        for (int what = 0; what < 8; what++) {
            hash = 31 * hash + x.count(what);
        }
        hash = 31 * hash + x.whole();
        for (int r = 0; r < 9; r++) {
            for (int what = 0; what < 8; what++) {
                hash = 31 * hash + x.rod(r, what);
            }
            for (int show : shows) {
                hash = 31 * hash + x.moves(r, show);
            }
            for (int n : adds) {
                hash = 31 * hash + x.ifAdded(r, n);
            }
        }
        hash = 31 * hash + x.toShow(0);
        hash = 31 * hash + x.toShow(123456789);
        hash = 31 * hash + x.cheapestLoan();
        hash = 31 * hash + Double.doubleToLongBits(x.looseness());
        hash = 31 * hash + buffer.length();
        for (int i = 0; i < buffer.length(); i++) {
            hash = 31 * hash + buffer.charAt(i);
        }
        return hash;
    }

    private static StuckRods mixed(String text) {
        StuckRods x = new StuckRods();
        Given.borrow(x, 2, 3);
        Given.borrow(x, 5, -2);
        x.move(4, 1, 3);
        x.stick(4, 1);
        x.stick(7, 2);
        Given.write(x, text);
        return x;
    }

    private static void digestIs(String what, StuckRods x, String text) {
        Check.due("digest " + what, x.digest(), digestOf(x, text));
    }

    private static void promise22Digest() {
        digestIs("of a new one", new StuckRods(), "");
        digestIs("of something of everything", mixed(""), "");
        String text = "+12-!~3";
        StuckRods x = mixed(text);
        digestIs("with a buffer", x, text);
        Check.due("digest again", x.digest(), x.digest());
        x.clearBuffer();
        digestIs("with a cleared buffer", x, "");
        digestOfLooseness();
    }

    /** Every share that can come up: its bits go into the digest. */
    private static void digestOfLooseness() {
        for (int numbers = 9; numbers <= 144; numbers++) {
            StuckRods x = new StuckRods();
            if (loosen(x, numbers)) {
                looseIs(x, numbers);
                Check.due("digest with looseness " + numbers, x.digest(), digestOf(x, ""));
            }
        }
    }

    /** Sticks rods until they can come to show so many numbers together; tells whether that is possible. */
    private static boolean loosen(StuckRods x, int numbers) {
        for (int all = 0; all <= 9; all++) {
            for (int ones = 0; all + ones <= 9; ones++) {
                for (int fives = 0; all + ones + fives <= 9; fives++) {
                    int loose = 9 - all - ones - fives;
                    if (all + 3 * ones + 6 * fives + 16 * loose == numbers) {
                        for (int r = 0; r < 9; r++) {
                            x.stick(r, r < all ? 3 : r < all + ones ? 2 : r < all + ones + fives ? 1 : 0);
                        }
                        return true;
                    }
                }
            }
        }
        return false;
    }

    public static void main(String[] args) {
        promise1NewObject();
        promise2Move();
        promise3Stick();
        promise4Set();
        promise5Add();
        promise6Less();
        promise7Pay();
        promise8Tidy();
        promise9Append();
        promise10ClearBuffer();
        promise11FirstError();
        promise12Reckon();
        promise13Undo();
        promise14Rod();
        promise15Whole();
        promise16Count();
        promise17Moves();
        promise18IfAdded();
        promise19ToShow();
        promise20CheapestLoan();
        promise21Looseness();
        promise22Digest();
        Check.end();
    }
}
