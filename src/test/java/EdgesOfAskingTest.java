/** The boundary cases of promises 12, 13, 15 and 17 to 22; above each test the words that it is for. */
public final class EdgesOfAskingTest {
    public static void main(String[] args) {
        clockOfRanges();
        clockOfFirstAndLast();
        noLowerVessel();
        noStrokes();
        ledToNone();
        dripsNow();
        pouredThoughItRanOver();
        truedNotAsItCame();
        hourRanges();
        hourOfEachKind();
        noonRanges();
        noonFirstAndLast();
        noonsOfTheBook();
        noonClocksThen();
        emptyInRanges();
        emptyInNow();
        emptyInOne();
        emptyInAThousand();
        emptyInIfNothingElseIsDone();
        emptyInBeyondTheLastTick();
        noonErrorRanges();
        noonErrorAtNoonAndAhead();
        noonErrorOfAStrokeWithoutDrops();
        noonErrorLeavesTheClock();
        bestWaxRanges();
        bestWaxOfAHoleOf1();
        bestWaxLeavesAHole();
        bestWaxOfNone();
        bestWaxMost();
        bestWaxUpAndDown();
        bestWaxOfSeveral();
        worstRanges();
        worstFirstAndLast();
        worstOfSeveral();
        meanWithoutClocks();
        meanOfOneToFive();
        countRanges();
        countWithoutAnything();
        countClocksAsSets();
        countOffAtSetting4();
        countEmptyAtOneDrop();
        countUntilNoon();
        countOffAtNoons();
        countTrued();
        countLists();
        askingIsNoChange();
        Check.end();
    }

    // ---- promises 12 and 13

    /** Promise 12: "INVALID_ARGUMENT if an argument is out of range" */
    private static void clockOfRanges() {
        Edges.noClock("clockOf, clock", (x, clock) -> x.clockOf(clock, 0));
        Edges.noClock("clockOf, clock, what it may not have", (x, clock) -> x.clockOf(clock, 2));
        Edges.outside("clockOf, what", Edges::busy, (x, what) -> x.clockOf(1, what), 0, 11);
    }

    /** Promise 12: "0: its kind; .. 11: by how much its hole became wider so far" - of a clock that has them all. */
    private static void clockOfFirstAndLast() {
        LeakingClocks x = new LeakingClocks();
        x.set(1, 100);
        x.set(2, 50);
        x.clock(2, 50, 11);
        x.clock(0, 1, 1);
        x.lead(0, 1);
        x.pour(0, 2);
        x.pour(0, 1);
        x.pour(0, 1);
        x.trueUp(0);
        // 50 and 50 * 1100 / 1000 of 1100 drip: twice 50, and a stroke; then 52 and 52 * 995 / 1000 of 995.
        x.ticks(2);
        x.pitch(0, 9);
        x.ticks(1);
        // 54 and 54 * 892 / 1000 of 892.
        int[] due = {2, 790, 0, 56, 9, 310, 100, 3, 1, 1100, 2, 6};
        for (int what = 0; what < due.length; what++) {
            Check.due("figure " + what, x.clockOf(0, what), due[what]);
        }
    }

    /** Promise 12: "NOT_FOUND for 2 .. if it has no lower vessel" */
    private static void noLowerVessel() {
        LeakingClocks x = Edges.busy();
        Check.due("of a sinking one", x.clockOf(0, 2), Check.MISSING);
        Check.due("of a siphon", x.clockOf(1, 2) >= 0 ? 1 : 0, 1);
        Check.due("of a rising one", x.clockOf(2, 2) >= 0 ? 1 : 0, 1);
        Edges.refused("a lower vessel", Edges::busy, y -> y.clockOf(0, 2), Check.MISSING);
        LeakingClocks y = Edges.at(0);
        Check.due("an empty one of a rising one", y.clockOf(1, 2), 0);
        Check.due("an empty one of a siphon", y.clockOf(2, 2), 0);
    }

    /** Promise 12: "NOT_FOUND for .. 7 if it has .. no strokes as it is no siphon" - none so far are 0. */
    private static void noStrokes() {
        LeakingClocks x = Edges.at(0);
        Check.due("of a sinking one", x.clockOf(0, 7), Check.MISSING);
        Check.due("of a rising one", x.clockOf(1, 7), Check.MISSING);
        Check.due("of a siphon without any so far", x.clockOf(2, 7), 0);
        Edges.refused("strokes of a sinking one", Edges::busy, y -> y.clockOf(0, 7), Check.MISSING);
        Edges.refused("strokes of a rising one", Edges::busy, y -> y.clockOf(2, 7), Check.MISSING);
    }

    /** Promise 12: "NOT_FOUND .. for 8 if it is led to none" */
    private static void ledToNone() {
        LeakingClocks x = Edges.at(0);
        for (int k = 0; k < 3; k++) {
            Check.due("of clock " + k, x.clockOf(k, 8), Check.MISSING);
        }
        x.lead(0, 1);
        Check.due("led to 1", x.clockOf(0, 8), 1);
        x.lead(0, 2);
        Check.due("led to 2", x.clockOf(0, 8), 2);
        x.lead(0, 0);
        Check.due("led to none again", x.clockOf(0, 8), Check.MISSING);
        Edges.refused("where a rising one is led", Edges::busy, y -> y.clockOf(2, 8), Check.MISSING);
    }

    /** Promise 12: "6: the drops that it would drip in a tick now" - of an empty vessel, and of one that is led to. */
    private static void dripsNow() {
        LeakingClocks x = new LeakingClocks();
        x.clock(0, 10, 1);
        x.clock(0, 10, 1);
        x.lead(0, 1);
        x.pour(0, 0);
        Check.due("would drip", x.clockOf(0, 6), 10);
        Check.due("has nothing now", x.clockOf(1, 6), 0);
        Check.due("drips what comes in that tick, too", x.ticks(1), 20);
    }

    /** Promise 12: "9: drops poured into it so far, those that ran over too" - but none that are led into it. */
    private static void pouredThoughItRanOver() {
        LeakingClocks x = Edges.full();
        Check.due("with 200 that ran over", x.clockOf(0, 9), 700);
        Check.due("none", x.clockOf(1, 9), 0);
        x.lead(0, 1);
        x.ticks(5);
        Check.due("none that came from another clock", x.clockOf(1, 9), 0);
        x.pour(1, 0);
        Check.due("50", x.clockOf(1, 9), 50);
    }

    /** Promise 12: "10: how often it was trued so far, by itself and by pitch(), too (not as it came)" */
    private static void truedNotAsItCame() {
        LeakingClocks x = new LeakingClocks();
        x.set(3, 1);
        x.set(5, 1);
        x.clock(0, 1, 1);
        Check.due("not as it came", x.clockOf(0, 10), 0);
        x.ticks(11);
        Check.due("not ahead of noon", x.clockOf(0, 10), 0);
        x.ticks(1);
        Check.due("by itself", x.clockOf(0, 10), 1);
        x.pitch(0, 2);
        Check.due("by pitch()", x.clockOf(0, 10), 2);
        x.trueUp(0);
        Check.due("by trueUp()", x.clockOf(0, 10), 3);
        x.pitch(0, 501);
        Check.due("not by a refused call", x.clockOf(0, 10), 3);
    }

    /** Promise 13: "what: 0: the hour and 10000, together; 1: its error and 10000, together; 2: the true hour" */
    private static void hourRanges() {
        Edges.noClock("hour, clock", (x, clock) -> x.hour(clock, 0));
        Edges.noClock("hour, clock, true hour", (x, clock) -> x.hour(clock, 2));
        Edges.outside("hour, what", Edges::busy, (x, what) -> x.hour(0, what), 0, 2);
    }

    /** Promise 13: "Tells the hour that a clock tells, or its error now." - 0, above and below it. */
    private static void hourOfEachKind() {
        LeakingClocks x = Edges.at(40);
        for (int k = 0; k < 3; k++) {
            Check.due("hour of 0", x.hour(k, 0), 10000);
            Check.due("2 behind", x.hour(k, 1), 9998);
            Check.due("true hour", x.hour(k, 2), 2);
        }
        x.pour(0, 0);
        Check.due("-50 drops of 9", x.hour(0, 0), 9994);
        Check.due("and 2 behind", x.hour(0, 1), 9992);
        x.pour(1, 0);
        x.ticks(2);
        Check.due("18 drops of 9", x.hour(1, 0), 10002);
        Check.due("no error", x.hour(1, 1), 10000);
        x.ticks(1);
        Check.due("27 drops of 9", x.hour(1, 1), 10001);
    }

    // ---- promise 15

    /** A book of noons by as many noons; a second clock comes ahead of the third noon, and errors are told apart. */
    private static LeakingClocks noons(int many) {
        LeakingClocks x = new LeakingClocks();
        x.set(3, 1);
        x.clock(0, 1, 1);
        for (int k = 1; k <= many; k++) {
            if (k == 3) {
                x.clock(0, 1, 1);
            }
            x.ticks(12);
        }
        return x;
    }

    /** Promise 15: "INVALID_ARGUMENT if ago or clock is below 0" - also where nothing would be found. */
    private static void noonRanges() {
        int[] below = {-1, Integer.MIN_VALUE};
        for (int number : below) {
            Edges.refused("ago " + number, Edges::busy, x -> x.noon(number, 0), Check.INVALID);
            Edges.refused("clock " + number, Edges::busy, x -> x.noon(0, number), Check.INVALID);
            Edges.refused("both " + number, Edges::busy, x -> x.noon(number, number), Check.INVALID);
            Edges.refused("ago, no such clock", Edges::busy, x -> x.noon(number, 9), Check.INVALID);
            Edges.refused("clock, no such noon", Edges::busy, x -> x.noon(9, number), Check.INVALID);
            Edges.refused("without noons", LeakingClocks::new, x -> x.noon(number, 0), Check.INVALID);
        }
    }

    /** Promise 15: "ago: 0 for the latest noon, and so on" */
    private static void noonFirstAndLast() {
        LeakingClocks x = noons(4);
        for (int ago = 0; ago < 4; ago++) {
            Check.due("noon " + ago, x.noon(ago, 0), 10000 - 12 * (4 - ago));
        }
        Check.due("the second clock, latest", x.noon(0, 1), 9976);
        Check.due("the second clock, first", x.noon(1, 1), 9988);
        Check.due("the second clock, ahead of it", x.noon(2, 1), Check.MISSING);
    }

    /** Promise 15: "the errors at the latest 4 noons", "NOT_FOUND if there are not so many noons in the book" */
    private static void noonsOfTheBook() {
        for (int many = 0; many <= 9; many++) {
            LeakingClocks x = noons(many);
            int there = Math.min(many, 4);
            Check.due("in the book", x.count(10), there);
            Check.due("so far", x.count(4), many);
            for (int ago = 0; ago < there; ago++) {
                Check.due("noon " + ago + " of " + many, x.noon(ago, 0), 10000 - 12 * (many - ago));
            }
            Check.due("one more of " + many, x.noon(there, 0), Check.MISSING);
            Check.due("far more of " + many, x.noon(Integer.MAX_VALUE, 0), Check.MISSING);
        }
        Edges.refused("no noon", LeakingClocks::new, x -> x.noon(0, 0), Check.MISSING);
        Edges.refused("a fifth noon", () -> noons(6), x -> x.noon(4, 0), Check.MISSING);
    }

    /** Promise 15: "NOT_FOUND if .. there was no such clock then" - also if there is one now. */
    private static void noonClocksThen() {
        LeakingClocks x = noons(5);
        Check.due("the last one then", x.noon(2, 1), 9988);
        Check.due("not yet then", x.noon(3, 1), Check.MISSING);
        Check.due("none", x.noon(0, 2), Check.MISSING);
        x.clock(0, 1, 1);
        Check.due("none then", x.noon(0, 2), Check.MISSING);
        x.ticks(12);
        Check.due("now there was", x.noon(0, 2), 9988);
        Check.due("far above", x.noon(0, Integer.MAX_VALUE), Check.MISSING);
        Edges.refused("a clock that came later", () -> noons(5), y -> y.noon(3, 1), Check.MISSING);
        Edges.refused("a clock that never came", () -> noons(5), y -> y.noon(0, 2), Check.MISSING);
        // A book of more clocks is undone, and noons of less take its places.
        LeakingClocks y = new LeakingClocks();
        y.set(3, 1);
        Check.type(y, "c0,1,1;c0,1,1;t60;");
        y.play();
        Check.due("two clocks", y.noon(3, 1), 9976);
        y.undo();
        Check.due("none", y.noon(0, 0), Check.MISSING);
        y.clock(0, 1, 1);
        y.ticks(60);
        Check.due("one clock", y.noon(3, 0), 9976);
        Check.due("not two", y.noon(3, 1), Check.MISSING);
    }

    // ---- promises 17 to 19

    /** Promise 17: "INVALID_ARGUMENT" */
    private static void emptyInRanges() {
        Edges.noClock("emptyIn", (x, clock) -> x.emptyIn(clock));
    }

    /** Promise 17: "0 if it is now" - also if water comes with the next tick. */
    private static void emptyInNow() {
        LeakingClocks x = new LeakingClocks();
        x.clock(0, 1, 1);
        x.clock(0, 1, 1);
        x.lead(0, 1);
        Check.due("the first one", x.emptyIn(0), 0);
        Check.due("the second one", x.emptyIn(1), 0);
        x.pour(0, 0);
        Check.due("not this one", x.emptyIn(0), 50);
        Check.due("this one is", x.emptyIn(1), 0);
    }

    /** Promise 17: "in how many ticks the upper vessel of a clock is empty" - one, and one more. */
    private static void emptyInOne() {
        int[] widths = {48, 47, 25, 24};
        int[] due = {1, 2, 2, 3};
        for (int k = 0; k < 4; k++) {
            LeakingClocks x = new LeakingClocks();
            x.clock(1, widths[k], 1);
            x.pour(0, 0);
            Check.due("by a width of " + widths[k], x.emptyIn(0), due[k]);
            x.ticks(due[k] - 1);
            Check.due("in the last tick", x.emptyIn(0), 1);
            Check.due("not yet", x.clockOf(0, 1) > 0 ? 1 : 0, 1);
            x.ticks(1);
            Check.due("now", x.emptyIn(0), 0);
            Check.due("is empty", x.clockOf(0, 1), 0);
        }
    }

    /** Of 1000 drops and more a hole of 1 drips 2, and 1 of less. */
    private static LeakingClocks slow() {
        LeakingClocks x = new LeakingClocks();
        x.set(2, 5000);
        x.clock(0, 1, 1);
        x.pour(0, 2);
        x.pour(0, 1);
        x.pour(0, 1);
        return x;
    }

    /** Promise 17: "NOT_FOUND if that is not within 1000" */
    private static void emptyInAThousand() {
        LeakingClocks x = slow();
        // 1100, 1098, .. 1006 are 48 ticks; from 1000 it is 998, and a drop each.
        x.ticks(48);
        Check.due("1004 drops", x.clockOf(0, 1), 1004);
        Check.due("1001", x.emptyIn(0), Check.MISSING);
        x.ticks(1);
        Check.due("1000", x.emptyIn(0), 1000);
        x.ticks(1);
        Check.due("999", x.emptyIn(0), 999);
        x.ticks(998);
        Check.due("1 drop", x.clockOf(0, 1), 1);
        Check.due("1", x.emptyIn(0), 1);
        Edges.refused("not within 1000", EdgesOfAskingTest::slow, y -> y.emptyIn(0), Check.MISSING);
    }

    /** Promise 17: "if nothing else is done" - holes become wider by that, and later clocks do not matter. */
    private static void emptyInIfNothingElseIsDone() {
        LeakingClocks x = new LeakingClocks();
        x.set(2, 50);
        x.clock(0, 20, 1);
        x.clock(2, 9, 1);
        x.clock(1, 3, 1);
        x.lead(0, 1);
        x.lead(1, 2);
        x.set(1, 30);
        x.pour(0, 2);
        x.pour(1, 1);
        x.pour(2, 1);
        for (int clock = 0; clock < 3; clock++) {
            int in = x.emptyIn(clock);
            LeakingClocks y = new LeakingClocks();
            y.set(2, 50);
            y.clock(0, 20, 1);
            y.clock(2, 9, 1);
            y.clock(1, 3, 1);
            y.lead(0, 1);
            y.lead(1, 2);
            y.set(1, 30);
            y.pour(0, 2);
            y.pour(1, 1);
            y.pour(2, 1);
            y.ticks(in - 1);
            Check.due("not yet, " + clock, y.count(3) >> clock & 1, 0);
            y.ticks(1);
            Check.due("then, " + clock, y.count(3) >> clock & 1, 1);
        }
    }

    /** Promises 17 to 19: "if nothing else is done" - the last tick of ticks() does not bind what would be. */
    private static void emptyInBeyondTheLastTick() {
        LeakingClocks x = Edges.at(99999);
        x.pour(0, 0);
        // 9 each tick, of 50.
        Check.due("6 ticks", x.emptyIn(0), 6);
        Check.due("the noon of 5004 hours", x.noonError(0), 10000 - 5004);
        Check.due("no wax", x.bestWax(0, 0), 0);
    }

    /** Promise 18: "INVALID_ARGUMENT" */
    private static void noonErrorRanges() {
        Edges.noClock("noonError", (x, clock) -> x.noonError(clock));
    }

    /** Promise 18: "the error of a clock at the next noon" - at noon it is the one after, a tick ahead it is that. */
    private static void noonErrorAtNoonAndAhead() {
        LeakingClocks x = new LeakingClocks();
        x.set(2, 5000);
        x.clock(1, 1, 1);
        x.pour(0, 2);
        Check.due("at first: 240 drops for 12 hours", x.noonError(0), 10228);
        x.ticks(239);
        Check.due("a tick ahead", x.noonError(0), 10228);
        x.ticks(1);
        Check.due("it was so", x.noon(0, 0), 10228);
        Check.due("at noon the next one: 480 for 24", x.noonError(0), 10456);
        x.ticks(1);
        Check.due("behind it the same", x.noonError(0), 10456);
        x.set(3, 1);
        Check.due("252 ticks are a noon now", x.noonError(0), 10000);
        x.set(3, 21);
        Check.due("252 ticks of 12 hours", x.noonError(0), 10240);
    }

    /** Promise 18: "if nothing else is done" - a siphon may empty itself though nothing drips. */
    private static void noonErrorOfAStrokeWithoutDrops() {
        LeakingClocks x = new LeakingClocks();
        x.clock(2, 60, 1);
        x.clock(1, 60, 1);
        x.lead(0, 1);
        x.pour(0, 0);
        x.ticks(1);
        x.set(1, 20);
        Check.due("20 of the stroke for 12 hours", x.noonError(0), 10008);
        Check.due("50 that it let go", x.noonError(1), 10038);
        Check.due("wax now is for nothing", x.bestWax(0, 0), 0);
        x.ticks(239);
        Check.due("it was so", x.noon(0, 0), 10008);
        Check.due("it was so, too", x.noon(0, 1), 10038);
    }

    /** Promise 18: "(ahead of truing)", "if nothing else is done" - and asking does not do it. */
    private static void noonErrorLeavesTheClock() {
        Edges.changesNothing("emptyIn", Edges::busy, x -> x.emptyIn(0));
        Edges.changesNothing("noonError", Edges::busy, x -> x.noonError(2));
        Edges.changesNothing("bestWax", Edges::busy, x -> x.bestWax(1, 0));
        LeakingClocks x = new LeakingClocks();
        x.set(5, 1);
        x.set(4, 0);
        x.clock(0, 1, 1);
        Check.due("ahead of truing", x.noonError(0), 9988);
        x.ticks(240);
        Check.due("it was so", x.noon(0, 0), 9988);
        Check.due("it is trued", x.hour(0, 1), 10000);
        Check.due("the next one by the truing of this", x.noonError(0), 9988);
    }

    /** Promise 19: "what: 0: the wax; 1: the error then and 10000, together" */
    private static void bestWaxRanges() {
        Edges.noClock("bestWax, clock", (x, clock) -> x.bestWax(clock, 0));
        Edges.outside("bestWax, what", Edges::busy, (x, what) -> x.bestWax(0, what), 0, 1);
    }

    /** Rising clocks of a pitch, with so many drops above them, 12 ticks ahead of noon; holes stay as they are. */
    private static LeakingClocks rising(int width, int pitch, int fifties) {
        LeakingClocks x = new LeakingClocks();
        x.set(3, 1);
        x.set(2, 5000);
        x.clock(1, width, pitch);
        for (int k = 0; k < fifties; k++) {
            x.pour(0, 0);
        }
        return x;
    }

    /** Promise 19: "how much wax now" - none can be put on a hole of 1, and 1 on a hole of 2. */
    private static void bestWaxOfAHoleOf1() {
        LeakingClocks x = rising(1, 1, 1);
        Check.due("12 drops are 12 hours", x.bestWax(0, 1), 10000);
        Check.due("none", x.bestWax(0, 0), 0);
        x.pitch(0, 2);
        Check.due("12 drops are 6 hours", x.bestWax(0, 1), 9994);
        Check.due("none can be put on", x.bestWax(0, 0), 0);
        LeakingClocks y = rising(2, 1, 1);
        Check.due("1 of 2", y.bestWax(0, 0), 1);
        Check.due("its error", y.bestWax(0, 1), 10000);
    }

    /** Promise 19: "how much wax now" - a hole that would be below 1 is none of them, though it would be better. */
    private static void bestWaxLeavesAHole() {
        // 20 and 20 * 50 / 1000 drops went through in 1 tick; by a hole of 1 11 more do, and 12 hours are due.
        LeakingClocks x = rising(20, 1, 1);
        x.ticks(1);
        Check.due("all but 1", x.bestWax(0, 0), 19);
        Check.due("its error", x.bestWax(0, 1), 10020);
        Check.due("is put on", x.wax(0, 19), 1);
        Check.due("no more", x.bestWax(0, 0), 0);
        Check.due("the same error", x.noonError(0), 10020);
    }

    /** Promise 19: "0 for none" - also where all errors are the same. */
    private static void bestWaxOfNone() {
        LeakingClocks x = rising(60, 1, 0);
        Check.due("an empty one", x.bestWax(0, 0), 0);
        Check.due("its error", x.bestWax(0, 1), 9988);
        LeakingClocks y = rising(60, 500, 1);
        Check.due("too little for an hour", y.bestWax(0, 0), 0);
        Check.due("its error", y.bestWax(0, 1), 9988);
    }

    /** Promise 19: "how much wax now would let the error .. be least" - all but 1 of a hole of 60, or all but 2. */
    private static void bestWaxMost() {
        LeakingClocks x = rising(60, 1, 1);
        Check.due("59 of 60", x.bestWax(0, 0), 59);
        Check.due("12 drops are 12 hours", x.bestWax(0, 1), 10000);
        LeakingClocks y = rising(60, 2, 1);
        Check.due("58 of 60", y.bestWax(0, 0), 58);
        Check.due("24 drops are 12 hours", y.bestWax(0, 1), 10000);
        Check.due("is put on", y.wax(0, 58), 2);
        Check.due("none more", y.bestWax(0, 0), 0);
        Check.due("the same error", y.noonError(0), 10000);
    }

    /** Promise 19: "would let the error .. be least up or down" - it may be without wax, amid, and behind worse ones. */
    private static void bestWaxUpAndDown() {
        // 12 ticks by widths of 4, 3, 2 and 1 let 48, 36, 24 and 12 of 50 drops through.
        int[] pitches = {4, 3, 2, 1, 5};
        int[] wax = {0, 1, 2, 3, 0};
        int[] errors = {0, 0, 0, 0, -3};
        for (int k = 0; k < 5; k++) {
            LeakingClocks x = rising(4, pitches[k], 1);
            Check.due("by a pitch of " + pitches[k], x.bestWax(0, 0), wax[k]);
            Check.due("its error", x.bestWax(0, 1), 10000 + errors[k]);
        }
    }

    /** Promise 19: "of several the least wax" - of one hour too many and one too few, and of two that are the same. */
    private static void bestWaxOfSeveral() {
        // By a width of 10 12, 9 times 11 and twice 10 of 200 drops are 13 hours; by one of 9 117 are 11.
        LeakingClocks x = rising(20, 10, 4);
        Check.due("1 too many ahead of 1 too few", x.bestWax(0, 0), 10);
        Check.due("its error", x.bestWax(0, 1), 10001);
        // By widths of 5 and more all 50 drops, by one of 4 48: 12 hours of 4 each.
        LeakingClocks y = rising(9, 4, 1);
        Check.due("the first of five", y.bestWax(0, 0), 0);
        Check.due("its error", y.bestWax(0, 1), 10000);
        // By widths of 5 and 4 16 hours, by one of 3 12.
        LeakingClocks z = rising(6, 3, 1);
        Check.due("the first that is without error", z.bestWax(0, 0), 3);
        Check.due("its error", z.bestWax(0, 1), 10000);
    }

    // ---- promises 20 and 21

    /** Promise 20: "INVALID_ARGUMENT if rank is below 0; NOT_FOUND if there are not so many" */
    private static void worstRanges() {
        Edges.refused("rank -1", Edges::busy, x -> x.worst(-1), Check.INVALID);
        Edges.refused("least rank", Edges::busy, x -> x.worst(Integer.MIN_VALUE), Check.INVALID);
        Edges.refused("rank -1 without clocks", LeakingClocks::new, x -> x.worst(-1), Check.INVALID);
        Edges.refused("rank 0 without clocks", LeakingClocks::new, x -> x.worst(0), Check.MISSING);
        Edges.refused("rank 3 of 3", Edges::busy, x -> x.worst(3), Check.MISSING);
        Edges.refused("rank 5 of 5", Edges::busyWithFive, x -> x.worst(5), Check.MISSING);
        Edges.refused("most rank", Edges::busy, x -> x.worst(Integer.MAX_VALUE), Check.MISSING);
    }

    /** Promise 20: "the greatest up or down first", "0 for the first one, and so on" */
    private static void worstFirstAndLast() {
        LeakingClocks x = new LeakingClocks();
        x.clock(0, 1, 1);
        Check.due("the only one", x.worst(0), 0);
        // Errors of 0, -50, 50, -49 and 25 hours.
        x.clock(0, 1, 1);
        x.clock(1, 60, 1);
        x.clock(0, 1, 1);
        x.clock(1, 24, 1);
        x.pour(2, 0);
        x.pour(3, 0);
        x.pour(4, 0);
        x.ticks(1);
        x.pour(1, 0);
        int[] errors = {0, -50, 50, -49, 25};
        for (int k = 0; k < 5; k++) {
            Check.due("error of " + k, x.hour(k, 1), 10000 + errors[k]);
        }
        int[] due = {1, 2, 3, 4, 0};
        for (int rank = 0; rank < 5; rank++) {
            Check.due("rank " + rank, x.worst(rank), due[rank]);
        }
        x.ticks(1);
        // -49, 50, -48 and 49 now.
        int[] then = {2, 1, 4, 3, 0};
        for (int rank = 0; rank < 5; rank++) {
            Check.due("rank " + rank + " then", x.worst(rank), then[rank]);
        }
    }

    /** Promise 20: "of several the lowest one" */
    private static void worstOfSeveral() {
        LeakingClocks x = new LeakingClocks();
        for (int k = 0; k < 5; k++) {
            x.clock(k % 2, 60, 1);
        }
        for (int rank = 0; rank < 5; rank++) {
            Check.due("all the same, rank " + rank, x.worst(rank), rank);
        }
        x.pour(3, 0);
        x.ticks(1);
        x.pour(4, 0);
        int[] due = {3, 4, 0, 1, 2};
        for (int rank = 0; rank < 5; rank++) {
            Check.due("50 up and 50 down, rank " + rank, x.worst(rank), due[rank]);
        }
    }

    /** Promise 21: "NOT_FOUND without clocks" */
    private static void meanWithoutClocks() {
        Edges.refused("the mean", LeakingClocks::new, x -> x.mean(), Check.MISSING);
        LeakingClocks x = new LeakingClocks();
        x.clock(0, 1, 1);
        Check.due("of one", x.mean(), 0);
        x.undo();
        Check.due("of none again", x.mean(), Check.MISSING);
    }

    /** Promise 21: "these together, as a float, divided by how many clocks there are, as a float" */
    private static void meanOfOneToFive() {
        for (int clocks = 1; clocks <= 5; clocks++) {
            LeakingClocks x = new LeakingClocks();
            for (int k = 0; k < clocks; k++) {
                x.clock(0, 1, 50);
            }
            for (int error = 0; error < 20; error++) {
                Check.due(error + " by " + clocks, x.mean(), Float.floatToIntBits((float) error / (float) clocks));
                x.pour(0, 0);
            }
        }
        LeakingClocks y = Edges.at(99999);
        y.set(3, 1);
        y.clock(1, 60, 1);
        y.pour(3, 0);
        Check.due("great ones", y.mean(), Float.floatToIntBits(299997.0f / 4.0f));
    }

    // ---- promise 22

    /** Promise 22: "INVALID_ARGUMENT if what is out of range" - between 12 and 20, too. */
    private static void countRanges() {
        for (int what : new int[] {-1, 13, 14, 19, 26, Integer.MIN_VALUE, Integer.MAX_VALUE}) {
            Edges.refused("count " + what, Edges::busy, x -> x.count(what), Check.INVALID);
        }
    }

    /** Promise 22: of a new object. */
    private static void countWithoutAnything() {
        LeakingClocks x = new LeakingClocks();
        for (int what = 0; what <= 12; what++) {
            Check.due("count " + what, x.count(what), what == 8 ? 240 : 0);
        }
        Check.due("the first setting", x.count(20), 2000);
        Check.due("the last setting", x.count(25), 0);
    }

    /** "Sets of clocks are told as bits: bit k is for the clock k." - the first and the last. */
    private static void countClocksAsSets() {
        LeakingClocks x = new LeakingClocks();
        for (int k = 0; k < 5; k++) {
            x.clock(0, 1, 1);
            Check.due("empty ones", x.count(3), (2 << k) - 1);
            Check.due("clocks", x.count(1), k + 1);
        }
        x.pour(4, 0);
        Check.due("empty but the last", x.count(3), 15);
        Check.due("off is the last", x.count(2), 16);
        x.pour(0, 0);
        Check.due("empty but the last and the first", x.count(3), 14);
        Check.due("off are the last and the first", x.count(2), 17);
    }

    /** Promise 22: "2: .. their error is above setting 4 up or down" - by setting 4, and by 1 more. */
    private static void countOffAtSetting4() {
        for (int borne : new int[] {0, 1, 12}) {
            LeakingClocks x = new LeakingClocks();
            x.set(4, borne);
            x.set(3, 30);
            x.clock(1, 60, 1);
            x.clock(0, 1, 1);
            x.clock(0, 1, 1);
            x.lead(1, 2);
            x.pour(0, 0);
            x.ticks(1);
            x.wax(0, 59);
            x.trueUp(0);
            Check.due("no error", x.count(2), 0);
            x.pour(0, 0);
            x.pour(1, 0);
            x.trueUp(1);
            Check.due("still none", x.count(2), 0);
            x.ticks(borne);
            // The rising one is ahead by a drop each tick, the second one, too.
            Check.due("error", x.hour(0, 1), 10000 + borne);
            Check.due("borne", x.count(2), 0);
            x.ticks(1);
            Check.due("off up", x.count(2), 3);
        }
        for (int borne : new int[] {0, 1, 12}) {
            LeakingClocks x = new LeakingClocks();
            x.set(4, borne);
            x.set(3, 1);
            x.clock(0, 1, 1);
            x.ticks(borne == 0 ? 1 : borne);
            Check.due("down by " + borne, x.count(2), borne == 0 ? 1 : 0);
            x.ticks(1);
            Check.due("off down", x.count(2), 1);
        }
    }

    /** Promise 22: "3: clocks whose upper vessel is empty" - not with one drop. */
    private static void countEmptyAtOneDrop() {
        LeakingClocks x = new LeakingClocks();
        x.clock(1, 47, 1);
        x.pour(0, 0);
        x.ticks(1);
        Check.due("one drop", x.clockOf(0, 1), 1);
        Check.due("not empty", x.count(3), 0);
        x.ticks(1);
        Check.due("empty, though the lower one is not", x.count(3), 1);
    }

    /** Promise 22: "8: ticks until the next noon" - a tick ahead of it, at it, and behind it. */
    private static void countUntilNoon() {
        for (int hour : new int[] {1, 20, 30}) {
            LeakingClocks x = new LeakingClocks();
            x.set(3, hour);
            Check.due("at first", x.count(8), 12 * hour);
            x.ticks(12 * hour - 1);
            Check.due("a tick ahead", x.count(8), 1);
            x.ticks(1);
            Check.due("at noon", x.count(8), 12 * hour);
            x.ticks(1);
            Check.due("a tick behind", x.count(8), 12 * hour - 1);
        }
    }

    /** Promise 22: "5: errors above setting 4 up or down at noons so far" - by setting 4 as it was at each. */
    private static void countOffAtNoons() {
        LeakingClocks x = new LeakingClocks();
        x.set(3, 1);
        x.set(4, 12);
        x.clock(0, 1, 1);
        x.ticks(12);
        Check.due("an error of 12 is borne", x.count(5), 0);
        x.set(4, 11);
        Check.due("not counted behind it", x.count(5), 0);
        x.ticks(11);
        Check.due("nor between noons", x.count(5), 0);
        x.ticks(1);
        Check.due("one of 24 is not", x.count(5), 1);
        x.trueUp(0);
        Check.due("it was so then", x.count(5), 1);
        x.ticks(12);
        Check.due("one of 12 is above 11", x.count(5), 2);
    }

    /** Promise 22: "6: how often clocks were trued so far" - of all clocks together. */
    private static void countTrued() {
        LeakingClocks x = new LeakingClocks();
        for (int k = 0; k < 5; k++) {
            x.clock(0, 1, 1);
        }
        Check.due("not as they came", x.count(6), 0);
        x.trueUp(0);
        x.trueUp(4);
        x.pitch(4, 2);
        Check.due("three times", x.count(6), 3);
        Check.due("the last one twice", x.clockOf(4, 10), 2);
    }

    /** Promise 22: "10: noons in the book; 11: states in the history; 12: the length of the text" - at their ends. */
    private static void countLists() {
        LeakingClocks x = new LeakingClocks();
        x.set(3, 1);
        for (int k = 1; k <= 6; k++) {
            x.ticks(12);
            Check.due("noons in the book", x.count(10), Math.min(k, 4));
            Check.due("noons so far", x.count(4), k);
            Check.due("states", x.count(11), Math.min(k + 1, 4));
        }
        for (int k = 1; k <= 62; k++) {
            x.type('!');
            Check.due("length", x.count(12), Math.min(k, 60));
        }
    }

    /** "The changes are the calls of clock, lead, .." - the calls that ask are none, and change nothing. */
    private static void askingIsNoChange() {
        Edges.Call[] calls = {x -> x.clockOf(0, 1), x -> x.hour(0, 0), x -> x.water(0), x -> x.noon(0, 0), x -> x.why(0, 0),
            x -> x.worst(0), x -> x.mean(), x -> x.count(0), x -> x.fault(0)};
        for (int k = 0; k < calls.length; k++) {
            Edges.changesNothing("asking " + k, Edges::busy, calls[k]);
        }
    }
}
