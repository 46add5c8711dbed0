import java.util.function.Consumer;

/** A test for each boundary case that the document names: the terms of texts and undo, promises 9 to 13. */
public final class TextsBoundaryTest {
    private static final String SIXTY = "+1".repeat(30);

    private TextsBoundaryTest() {
    }

    private static StuckRods with(String text) {
        StuckRods x = new StuckRods();
        Given.write(x, text);
        return x;
    }

    private static void errorAt(String text, int due) {
        Check.due("firstError of " + text, with(text).firstError(), due);
    }

    private static void reckons(String text, int dueDigits, long dueWhole) {
        StuckRods x = with(text);
        Check.due("reckon of " + text, x.reckon(), dueDigits);
        Check.due("whole behind reckon of " + text, x.whole(), dueWhole);
    }

    private static void refusesToReckon(String text) {
        Check.refuses("reckon of \"" + text + "\"", x -> {
            x.add(0, 5);
            Given.write(x, text);
        }, Check.ARGUMENT, StuckRods::reckon);
    }

    // ---- Terms, Input text: which characters may follow, for each character that the buffer takes

    private static void mayFollow(String before, String good) {
        for (char code = 33; code <= 126; code++) {
            boolean mayFollow = good.indexOf(code) >= 0;
            errorAt(before + code, mayFollow ? before.length() + 1 : before.length());
        }
    }

    static void termsASumBeginsWithASign() {
        mayFollow("", "+-");
    }

    static void termsBehindASignComesADigit() {
        mayFollow("+", "0123456789");
        mayFollow("-", "0123456789");
        mayFollow("+1-", "0123456789");
        mayFollow("-0+", "0123456789");
    }

    static void termsBehindALeadingZeroComesASign() {
        mayFollow("+0", "+-");
        mayFollow("-0", "+-");
        mayFollow("+12-0", "+-");
        mayFollow("-0-0", "+-");
    }

    static void termsBehindOneToFiveDigitsComesADigitOrASign() {
        for (String digits : new String[] {"1", "10", "100", "1000", "10000", "9", "99999", "5", "20", "12345"}) {
            mayFollow("+" + digits, "0123456789+-");
            mayFollow("-0-" + digits, "0123456789+-");
        }
    }

    static void termsBehindSixDigitsComesASign() {
        mayFollow("+100000", "+-");
        mayFollow("-999999", "+-");
        mayFollow("+1-123450", "+-");
    }

    static void termsASumHasOneTermOrMore() {
        refusesToReckon("");
        reckons("+7", 1, 7);
        reckons("+7+7", 2, 14);
    }

    static void termsANumberHasOneDigitAtLeast() {
        refusesToReckon("+");
        refusesToReckon("-");
        refusesToReckon("+1+");
        refusesToReckon("+1-");
        refusesToReckon("+123456+");
        reckons("+1", 1, 1);
    }

    static void termsANumberHasSixDigitsAtMost() {
        reckons("+999999", 6, 999999);
        reckons("+100000", 6, 100000);
        refusesToReckon("+1000000");
        refusesToReckon("+1-1234567");
    }

    static void termsNoLeadingZeroButFor0Itself() {
        reckons("+0", 1, 0);
        reckons("-0", 1, 0);
        refusesToReckon("+00");
        refusesToReckon("+01");
        refusesToReckon("+1-09");
        reckons("+10", 2, 10);
    }

    /** The buffer's length does not bound the sum: what would go on behind 60 characters is no error. */
    static void termsASumOfAnyLength() {
        errorAt("+11" + "+1".repeat(28) + "+", 60);
        errorAt("+11" + "+1".repeat(28) + "-", 60);
        errorAt("-0" + "-123456".repeat(8) + "+1", 60);
        errorAt(SIXTY, 60);
    }

    // ---- Promise 9: append

    static void promise9TheCodeIs33To126() {
        for (int code = 33; code <= 126; code++) {
            Check.due("append(" + code + ")", new StuckRods().append(code), 1);
        }
        for (int code : new int[] {32, 127, 0, -1, -43, 128, 43 + 256, 43 + 65536, Integer.MIN_VALUE, Integer.MAX_VALUE}) {
            Check.refuses("append(" + code + ")", x -> Given.write(x, "+1"), Check.ARGUMENT, x -> x.append(code));
        }
    }

    static void promise9ReturnsTheNewLengthUpTo60() {
        StuckRods x = new StuckRods();
        for (int length = 1; length <= 60; length++) {
            Check.due("append", x.append('1'), length);
        }
    }

    static void promise9AFullBufferIsRefused() {
        Check.refuses("append of the 61st", x -> Given.write(x, SIXTY), Check.STATE, x -> x.append('+'));
        Check.refuses("append of the 61st, any code", x -> Given.write(x, "~".repeat(60)), Check.STATE, x -> x.append(33));
    }

    static void promise9TheCodeIsNamedAheadOfTheFullBuffer() {
        for (int code : new int[] {32, 127, -1, Integer.MIN_VALUE, Integer.MAX_VALUE}) {
            Check.refuses("append(" + code + ") of the 61st", x -> Given.write(x, SIXTY), Check.ARGUMENT, x -> x.append(code));
        }
    }

    static void promise9IsNotUndoable() {
        Check.changesNothing("append, but to the buffer", x -> x.move(4, 1, 1), x -> {
            x.append('+');
            x.clearBuffer();
        });
    }

    static void promise9WhatIsNoSumIsAppendedToo() {
        StuckRods x = with("~!a");
        Check.due("append behind an error", x.append('}'), 4);
        Check.due("the first error stays", x.firstError(), 0);
    }

    // ---- Promise 10: clearBuffer

    static void promise10ReturnsTheLengthThatItHad0To60() {
        for (int length = 0; length <= 60; length++) {
            StuckRods x = with(SIXTY.substring(0, length));
            Check.due("clearBuffer", x.clearBuffer(), length);
            Check.due("clearBuffer of an empty one", x.clearBuffer(), 0);
        }
    }

    static void promise10BehindItTheBufferIsEmpty() {
        StuckRods x = with(SIXTY);
        x.clearBuffer();
        Check.due("firstError", x.firstError(), 0);
        Check.throwsThis("reckon", Check.ARGUMENT, x::reckon);
        Check.due("append", x.append('-'), 1);
        Check.due("append", x.append('1'), 2);
        Check.due("a new text alone", x.firstError(), 2);
        for (int length = 3; length <= 60; length++) {
            Check.due("append up to the full buffer", x.append('1'), length);
        }
    }

    static void promise10IsNotUndoable() {
        Check.changesNothing("clearBuffer of an empty one", x -> x.move(4, 1, 1), StuckRods::clearBuffer);
        Check.changesNothing("clearBuffer of a text", x -> x.move(4, 1, 1), x -> {
            x.append('+');
            x.clearBuffer();
        });
    }

    // ---- Promise 11: firstError

    static void promise11TheLengthIfThereIsNone() {
        errorAt("", 0);
        errorAt("+", 1);
        errorAt("+1", 2);
        errorAt("+1-", 3);
        errorAt("-123456+0", 9);
        errorAt(SIXTY.substring(0, 59), 59);
        errorAt(SIXTY, 60);
    }

    static void promise11TheFirstCharacter() {
        errorAt("1", 0);
        errorAt("1+1", 0);
        errorAt("x" + SIXTY.substring(0, 59), 0);
    }

    static void promise11TheLastCharacter() {
        errorAt(SIXTY.substring(0, 58) + "+x", 59);
        errorAt(SIXTY.substring(0, 58) + "++", 59);
        errorAt("+12" + "+1".repeat(28) + "x", 59);
        errorAt("-0-0" + "+1".repeat(27) + "+0", 60);
        errorAt("-0+1".repeat(14) + "+1" + "-0", 60);
        errorAt("-0+1".repeat(14) + "+0" + "01", 58);
        errorAt("+1".repeat(26) + "-1234567", 59);
    }

    static void promise11OfSeveralErrorsTheFirst() {
        errorAt("+1x2y", 2);
        errorAt("+0099+x", 2);
        errorAt("++--", 1);
        errorAt("+12345678901", 7);
        errorAt("x+1", 0);
    }

    static void promise11ChangesNothing() {
        for (String text : new String[] {"", "+1", "+x", "1", SIXTY}) {
            Check.changesNothing("firstError of " + text, x -> Given.write(x, text), StuckRods::firstError);
        }
    }

    // ---- Promise 12: reckon

    static void promise12WhatIsNoCompleteSumIsRefused() {
        for (String text : new String[] {"", "+", "-", "1", "0", "x", "+x", "+1x", "++1", "+-1", "+1++1", "+1+", "+1-",
            "+00", "+01", "+1000000", "+1*2", "+1.5", SIXTY.substring(0, 59), "+11" + "+1".repeat(28) + "+"}) {
            refusesToReckon(text);
        }
    }

    static void promise12ARefusedTextStaysInTheBuffer() {
        StuckRods x = with("+12-");
        Check.throwsThis("reckon of +12-", Check.ARGUMENT, x::reckon);
        Check.due("the text goes on", x.append('2'), 5);
        Check.due("reckon of +12-2", x.reckon(), 3);
        Check.due("whole", x.whole(), 10);
    }

    static void promise12TheLastDigitIsAtTheRod0TheFirstOfSixAtTheRod5() {
        StuckRods x = with("+987654");
        Check.due("reckon", x.reckon(), 6);
        Check.shows("reckon", x, "0 0 0 9 8 7 6 5 4");
        StuckRods y = with("+100000");
        Check.due("reckon", y.reckon(), 6);
        Check.shows("reckon", y, "0 0 0 1 0 0 0 0 0");
        StuckRods z = with("+3");
        Check.due("reckon", z.reckon(), 1);
        Check.shows("reckon", z, "0 0 0 0 0 0 0 0 3");
    }

    /** 8 at the rod 1 first would show 10 there; from the last digit on, the carry comes to 0 there. */
    static void promise12TheDigitsFromTheLastOneOn() {
        StuckRods x = new StuckRods();
        x.move(0, 2, 5);
        x.move(1, 2, 1);
        Given.write(x, "+51");
        Check.due("reckon of +51", x.reckon(), 2);
        Check.shows("a carry to 11, then 5: 17 as 7 with a carry", x, "0 0 0 0 0 0 1 7 6");
        StuckRods stuck = Given.stuckAt(0, 0, 0);
        Given.write(stuck, "+11");
        Check.due("the rod 0 is the first, and it is stuck", stuck.reckon(), 0);
        Check.shows("the rod 1 is not asked", stuck, "0 0 0 0 0 0 0 0 0");
    }

    static void promise12TermByTerm() {
        reckons("+5-5", 2, 0);
        StuckRods x = with("-5+5");
        Check.due("-5 cannot be done, then nothing is", x.reckon(), 0);
        Check.due("whole", x.whole(), 0);
        reckons("+20-7", 3, 13);
        reckons("+999999+1-1000", 11, 999000);
    }

    static void promise12ADigit0IsDoneWithNothing() {
        StuckRods x = Given.stuckAt(0, 1, 1);
        x.stick(1, 3);
        Given.write(x, "+100-0+0");
        Check.due("0 at stuck rods", x.reckon(), 5);
        Check.shows("0 at stuck rods", x, "0 0 0 0 0 0 1 0 6");
        StuckRods y = with("-0");
        Check.due("-0 at an empty rod", y.reckon(), 1);
        Check.due("no moves", y.count(0), 0);
    }

    static void promise12UpToTheFirstDigitByWhichItCannotBeDone() {
        StuckRods first = Given.stuckAt(0, 0, 0);
        Given.write(first, "+1+20");
        Check.due("the first digit of all", first.reckon(), 0);
        Check.due("whole", first.whole(), 0);
        StuckRods middle = Given.stuckAt(1, 0, 0);
        Given.write(middle, "+111+5");
        Check.due("a digit in the middle of a number", middle.reckon(), 1);
        Check.due("whole", middle.whole(), 1);
        StuckRods last = Given.stuckAt(2, 0, 0);
        Given.write(last, "+122+133");
        Check.due("the last digit of a number, and no term behind it", last.reckon(), 2);
        Check.due("whole", last.whole(), 22);
        StuckRods end = Given.stuckAt(5, 0, 0);
        Given.write(end, "+7-100000");
        Check.due("the very last digit", end.reckon(), 1 + 5);
        Check.due("whole", end.whole(), 7);
    }

    static void promise12ADigitWhoseCarryCannotBeDoneChangesNothing() {
        StuckRods x = new StuckRods();
        x.move(0, 1, 3);
        Given.write(x, "+1-10");
        Check.due("no rod has enough for -10", x.reckon(), 2);
        Check.shows("9, and nothing of -10", x, "0 0 0 0 0 0 0 0 9");
        Check.due("moves", x.count(0), 5);
    }

    static void promise12ClearsTheBufferAlsoIfNothingIsDone() {
        for (String text : new String[] {"+1", "-1", "+0", SIXTY}) {
            StuckRods x = with(text);
            x.reckon();
            Check.due("the buffer behind reckon of " + text, x.clearBuffer(), 0);
            Check.due("append behind it", x.append('+'), 1);
        }
    }

    static void promise12NothingOfAnOlderLongerTextIsRead() {
        StuckRods x = with("+123456-123456+98");
        x.clearBuffer();
        Given.write(x, "+4");
        Check.due("reckon of +4 behind a text that was cleared", x.reckon(), 1);
        Check.due("whole", x.whole(), 4);
        Given.write(x, "+111111");
        x.reckon();
        Given.write(x, "+20");
        Check.due("reckon of +20 behind a text that was reckoned", x.reckon(), 2);
        Check.due("whole", x.whole(), 111135);
        Given.write(x, "-1");
        x.clearBuffer();
        Given.write(x, "+");
        Check.throwsThis("reckon of + behind -1", Check.ARGUMENT, x::reckon);
        Check.due("firstError of + behind -1", x.firstError(), 1);
    }

    static void promise12AFullBuffer() {
        reckons(SIXTY, 30, 30);
        reckons("+999999".repeat(8) + "-111", 51, 8 * 999999L - 111);
        reckons("+0".repeat(30), 30, 0);
        reckons("+1-1".repeat(15), 30, 0);
    }

    static void promise12IsUndoableAsOneCallAlsoIfNothingIsDone() {
        Check.savesOne("reckon", x -> Given.write(x, "+987-65+4"), StuckRods::reckon);
        Check.savesOne("reckon of 0", x -> Given.write(x, "+0"), StuckRods::reckon);
        Check.savesOne("reckon of what cannot be done", x -> Given.write(x, "-1"), StuckRods::reckon);
        Check.savesOne("reckon of what cannot be done to the end", x -> Given.write(x, "+12-31"), StuckRods::reckon);
    }

    // ---- Promise 13: undo, and Terms, Undo

    static void promise13NoSavedStateIsRefused() {
        Check.throwsThis("undo of a new one", Check.STATE, () -> new StuckRods().undo());
        StuckRods x = new StuckRods();
        x.add(0, 1);
        x.undo();
        long before = x.digest();
        Check.throwsThis("undo of nothing any more", Check.STATE, x::undo);
        Check.throwsThis("undo of nothing again", Check.STATE, x::undo);
        Check.due("nothing is changed", x.digest(), before);
        StuckRods six = new StuckRods();
        for (int i = 0; i < 9; i++) {
            six.add(0, 1);
        }
        for (int i = 0; i < 6; i++) {
            six.undo();
        }
        Check.refuses("undo of a seventh state", six, Check.STATE, six::undo);
    }

    static void promise13ReturnsHowManySavedStatesAreLeft5To0() {
        for (int saved = 1; saved <= 6; saved++) {
            StuckRods x = Given.behind(saved, Given::nothing);
            for (int left = saved - 1; left >= 0; left--) {
                Check.due("undo", x.undo(), left);
                Check.due("saved states", x.count(7), left);
            }
        }
    }

    static void promise13RestoresTheLatestAndDropsIt() {
        StuckRods x = new StuckRods();
        x.add(0, 1);
        x.add(0, 1);
        x.add(0, 1);
        x.undo();
        Check.due("one undo", x.whole(), 2);
        x.undo();
        Check.due("two undos: undo itself is not saved", x.whole(), 1);
        x.undo();
        Check.due("three undos", x.whole(), 0);
    }

    static void termsUndoAtMost6StatesTheOldestIsDroppedFirst() {
        for (int calls = 5; calls <= 20; calls++) {
            StuckRods x = new StuckRods();
            long[] before = new long[calls];
            for (int i = 0; i < calls; i++) {
                before[i] = x.whole();
                x.add(i % 9, 1 + i % 3);
                Check.due("saved states", x.count(7), Math.min(i + 1, 6));
            }
            for (int i = calls - 1; i >= Math.max(0, calls - 6); i--) {
                x.undo();
                Check.due("undo of call " + i + " of " + calls, x.whole(), before[i]);
            }
            Check.throwsThis("undo of what is dropped", Check.STATE, x::undo);
        }
    }

    static void termsUndoBehindUndoSavesAnew() {
        StuckRods x = new StuckRods();
        for (int i = 0; i < 8; i++) {
            x.add(0, 1);
        }
        for (int round = 0; round < 20; round++) {
            Check.due("undo", x.undo(), 5);
            Check.due("undo", x.undo(), 4);
            x.add(1, 1);
            Check.due("saved again", x.count(7), 5);
            x.undo();
            Check.due("undo of what is saved anew", x.whole(), 6);
            x.add(0, 1);
            x.add(0, 1);
            Check.due("saved again", x.count(7), 6);
        }
        for (int whole = 7; whole >= 2; whole--) {
            x.undo();
            Check.due("the older ones are as they were", x.whole(), whole);
        }
    }

    static void termsUndoRestoresAll() {
        Consumer<StuckRods> given = x -> {
            Given.borrow(x, 5, -2);
            x.move(4, 1, 3);
            x.stick(5, 1);
        };
        Check.savesOne("fives and ones", given, x -> x.move(0, 2, 5));
        Check.savesOne("what is stuck", given, x -> x.stick(5, 2));
        Check.savesOne("the setting", given, x -> x.set(7));
        Check.savesOne("a loan and how often it changed", given, x -> x.less(4, 9));
        Check.savesOne("a loan that is paid", x -> Given.borrow(x, 5, 2), x -> x.pay(5));
        Check.savesOne("moves so far", given, x -> x.add(4, 1));
    }

    static void termsUndoRestoresWhatIsCountedSoFar() {
        StuckRods x = Given.stuckAt(5, 0, 0);
        x.move(4, 2, 5);
        x.add(4, 1);
        Check.due("moves", x.count(0), 12);
        Check.due("changes of the loan", x.rod(5, 6), 1);
        x.undo();
        Check.due("moves undone", x.count(0), 7);
        Check.due("moves of the rod undone", x.rod(4, 5), 7);
        Check.due("changes of the loan undone", x.rod(5, 6), 0);
    }

    static void termsUndoLeavesTheBuffer() {
        StuckRods x = new StuckRods();
        Given.write(x, "+1");
        x.add(0, 1);
        Given.write(x, "2");
        x.undo();
        Check.due("the text from before and behind the saved state", x.reckon(), 2);
        Check.due("whole", x.whole(), 12);
        x.undo();
        Check.due("the text that is reckoned does not come back", x.clearBuffer(), 0);
        Check.due("whole behind undo", x.whole(), 0);
    }

    static void termsUndoWhatThrowsIsNotSaved() {
        StuckRods x = new StuckRods();
        x.set(9);
        Check.throwsThis("less", Check.STATE, () -> x.less(0, 1));
        Check.throwsThis("add", Check.ARGUMENT, () -> x.add(0, 0));
        Check.throwsThis("move", Check.INDEX, () -> x.move(9, 0, 0));
        Check.throwsThis("reckon", Check.ARGUMENT, x::reckon);
        Check.due("the latest saved state is the one from before set", x.undo(), 0);
        Check.due("the setting", x.count(6), 3);
    }

    static void termsUndoWhatIsNotMarkedIsNotSaved() {
        Consumer<StuckRods> given = x -> {
            Given.borrow(x, 5, 2);
            Given.write(x, "+1");
        };
        Check.changesNothing("looks", given, x -> {
            x.firstError();
            x.rod(4, 7);
            x.whole();
            x.count(7);
            x.moves(4, 15);
            x.ifAdded(4, 9);
            x.toShow(999999999);
            x.cheapestLoan();
            x.looseness();
            x.digest();
        });
    }

    public static void main(String[] args) {
        Check.runAll(TextsBoundaryTest.class);
    }
}
