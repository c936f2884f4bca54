/** Promises 16 to 22: what would be. */
public final class WouldBeTest {
    public static void main(String[] args) {
        why();
        emptyIn();
        emptyInAThousand();
        emptyInWithWaterLedOn();
        noonError();
        noonErrorAheadOfTruing();
        bestWax();
        bestWaxOfSeveral();
        bestWaxIsTheBest();
        worst();
        mean();
        count();
        askingChangesNothing();
        Check.end();
    }

    private static void why() {
        LeakingClocks x = new LeakingClocks();
        Check.due("16: no clock", x.why(0, 0), Check.INVALID);
        x.clock(0, 1, 1);
        Check.due("16: jug below", x.why(0, -1), Check.INVALID);
        Check.due("16: jug above", x.why(0, 3), Check.INVALID);
        Check.due("16: none", x.why(0, 2), 0);
        x.pour(0, 2);
        x.pour(0, 2);
        x.pour(0, 1);
        x.pour(0, 1);
        x.pour(0, 1);
        Check.due("16: full", x.why(0, 0), 2);
        x.ticks(1);
        Check.due("16: room for some", x.why(0, 2), 0);
        LeakingClocks y = new LeakingClocks();
        y.clock(1, 60, 1);
        y.set(0, 500);
        for (int k = 0; k < 28; k++) {
            y.pour(0, 2);
            y.ticks(60);
        }
        Check.due("16: less than 700", y.why(0, 2), 1);
        Check.due("16: 400 are enough for 200", y.why(0, 1), 0);
        y.pour(0, 1);
        Check.due("16: just 200", y.why(0, 1), 0);
        y.pour(0, 0);
        Check.due("16: less than 200", y.why(0, 1), 1);
        Check.due("16: more than 50", y.why(0, 0), 0);
        LeakingClocks z = new LeakingClocks();
        for (int k = 0; k < 5; k++) {
            z.clock(0, 1, 1);
        }
        z.set(0, 5000);
        for (int k = 0; k < 28; k++) {
            z.pour(k / 7, 2);
        }
        z.set(0, 500);
        Check.due("16: the first of both", z.why(0, 2), 1);
        Check.due("16: the second", z.why(0, 1), 2);
    }

    private static void emptyIn() {
        LeakingClocks x = new LeakingClocks();
        Check.due("17: no clock", x.emptyIn(0), Check.INVALID);
        x.clock(0, 20, 1);
        Check.due("17: below", x.emptyIn(-1), Check.INVALID);
        Check.due("17: above", x.emptyIn(1), Check.INVALID);
        Check.due("17: now", x.emptyIn(0), 0);
        x.pour(0, 0);
        // 21, 20 and 9 drip.
        Check.due("17: in three", x.emptyIn(0), 3);
        x.ticks(2);
        Check.due("17: in one", x.emptyIn(0), 1);
        x.ticks(1);
        Check.due("17: it is", x.clockOf(0, 1), 0);
        Check.due("17: now", x.emptyIn(0), 0);
    }

    /** A hole of width 1 lets 2 through of 1000 drops or more, and 1 of less. */
    private static void emptyInAThousand() {
        LeakingClocks x = new LeakingClocks();
        x.set(2, 5000);
        x.clock(0, 1, 1);
        x.pour(0, 2);
        x.pour(0, 1);
        x.pour(0, 0);
        Check.due("17: 950", x.emptyIn(0), 950);
        x.pour(0, 0);
        Check.due("17: 1000 with 2 at first", x.emptyIn(0), 999);
        x.pour(0, 0);
        // 1050, 1048 .. 1000 are 26 ticks, and 998 more.
        Check.due("17: 1024", x.emptyIn(0), Check.MISSING);
        x.ticks(23);
        Check.due("17: 1001", x.emptyIn(0), Check.MISSING);
        x.ticks(1);
        Check.due("17: 1000", x.emptyIn(0), 1000);
    }

    private static void emptyInWithWaterLedOn() {
        LeakingClocks x = new LeakingClocks();
        x.clock(0, 10, 1);
        x.clock(0, 60, 1);
        x.lead(0, 1);
        x.pour(0, 0);
        Check.due("17: now, though water comes", x.emptyIn(1), 0);
        x.pour(1, 1);
        int due = 0;
        LeakingClocks y = new LeakingClocks();
        y.clock(0, 10, 1);
        y.clock(0, 60, 1);
        y.lead(0, 1);
        y.pour(0, 0);
        y.pour(1, 1);
        while (y.clockOf(1, 1) > 0) {
            y.ticks(1);
            due++;
        }
        Check.due("17: with the water that comes", x.emptyIn(1), due);
        Check.due("17: by hand", x.emptyIn(1), 4);
    }

    private static void noonError() {
        LeakingClocks x = new LeakingClocks();
        Check.due("18: no clock", x.noonError(0), Check.INVALID);
        x.clock(1, 60, 50);
        Check.due("18: below", x.noonError(-1), Check.INVALID);
        Check.due("18: above", x.noonError(1), Check.INVALID);
        Check.due("18: stands", x.noonError(0), 9988);
        x.pour(0, 2);
        Check.due("18: 14 hours of 12", x.noonError(0), 10002);
        x.ticks(239);
        Check.due("18: next tick", x.noonError(0), 10002);
        x.ticks(1);
        Check.due("18: as it came", x.noon(0, 0), 10002);
        Check.due("18: the noon after", x.noonError(0), 9990);
        x.set(3, 30);
        x.ticks(999);
        Check.due("18: setting 3", x.noonError(0), 10000 + 14 - 48);
    }

    private static void noonErrorAheadOfTruing() {
        LeakingClocks x = new LeakingClocks();
        x.set(5, 1);
        x.set(4, 0);
        x.clock(2, 30, 100);
        x.clock(1, 9, 60);
        x.lead(0, 1);
        x.pour(0, 2);
        x.pour(1, 1);
        int due = x.noonError(1);
        int dueOfSiphon = x.noonError(0);
        x.ticks(x.count(8));
        Check.due("18: ahead of truing", x.noon(0, 1), due);
        Check.due("18: of the siphon", x.noon(0, 0), dueOfSiphon);
        Check.due("18: trued", x.hour(1, 1), 10000);
        Check.due("18: a whole noon on", x.noonError(1), 9988);
    }

    private static void bestWax() {
        LeakingClocks x = new LeakingClocks();
        Check.due("19: no clock", x.bestWax(0, 0), Check.INVALID);
        x.set(3, 1);
        x.clock(1, 20, 10);
        Check.due("19: what below", x.bestWax(0, -1), Check.INVALID);
        Check.due("19: what above", x.bestWax(0, 2), Check.INVALID);
        Check.due("19: clock above", x.bestWax(1, 0), Check.INVALID);
        Check.due("19: none helps", x.bestWax(0, 0), 0);
        Check.due("19: error", x.bestWax(0, 1), 9988);
        x.set(2, 5000);
        x.pour(0, 0);
        x.pour(0, 0);
        // 12 ticks of 10 drops would be 12 hours, but there are 100 drops: all of them go through by a width of 9, too.
        Check.due("19: all drops", x.bestWax(0, 1), 9998);
        Check.due("19: none is least", x.bestWax(0, 0), 0);
        x.pour(0, 0);
        x.pour(0, 0);
        // A width of 10 lets 12, 9 times 11, and twice 10 through, which are 13 hours; one of 9 lets 117, 11 hours.
        Check.due("19: of one too much and one too little the least wax", x.bestWax(0, 0), 10);
        Check.due("19: its error", x.bestWax(0, 1), 10001);
        x.wax(0, 10);
        Check.due("19: from there none", x.bestWax(0, 0), 0);
        x.wax(0, 1);
        Check.due("19: now too little", x.bestWax(0, 1), 9999);
        x.pour(0, 0);
        // 3 times 11, and 9 times 10 then, are 123 drops.
        Check.due("19: without error", x.bestWax(0, 1), 10000);
    }

    private static void bestWaxOfSeveral() {
        LeakingClocks x = new LeakingClocks();
        x.set(3, 1);
        x.set(2, 5000);
        x.clock(0, 3, 500);
        x.pour(0, 0);
        // The hour is -1 with any width that leaves some water, and 0 if none is left.
        Check.due("19: error", x.bestWax(0, 1), 9987);
        Check.due("19: of several the least", x.bestWax(0, 0), 0);
        LeakingClocks y = new LeakingClocks();
        y.clock(1, 1, 500);
        y.pour(0, 2);
        Check.due("19: a width of 1 can't be less", y.bestWax(0, 0), 0);
    }

    /** Against each wax that is truly put on, and the ticks until noon. */
    private static void bestWaxIsTheBest() {
        for (int kind = 0; kind < 3; kind++) {
            LeakingClocks x = new LeakingClocks();
            x.set(3, 3);
            x.clock(0, 14, 20);
            x.clock(kind, 60, kind == 0 ? 40 : 90);
            x.lead(0, 1);
            x.pour(0, 1);
            x.pour(1, 2);
            x.pour(1, 2);
            x.ticks(5);
            x.keep(0);
            int best = 0;
            int least = Integer.MAX_VALUE;
            for (int wax = 0; wax < 60; wax++) {
                x.back(0);
                if (wax == 0 || x.wax(1, wax) > 0) {
                    x.ticks(x.count(8));
                    int error = x.noon(0, 1) - 10000;
                    if (Math.abs(error) < Math.abs(least)) {
                        least = error;
                        best = wax;
                    }
                }
            }
            x.back(0);
            Check.due("19: wax for kind " + kind, x.bestWax(1, 0), best);
            Check.due("19: error of kind " + kind, x.bestWax(1, 1), 10000 + least);
        }
    }

    private static void worst() {
        LeakingClocks x = new LeakingClocks();
        Check.due("20: below", x.worst(-1), Check.INVALID);
        Check.due("20: no clock", x.worst(0), Check.MISSING);
        x.clock(0, 1, 50);
        x.clock(0, 1, 100);
        x.clock(1, 60, 100);
        x.clock(0, 1, 100);
        x.clock(1, 60, 10);
        x.pour(0, 1);
        x.pour(1, 1);
        x.pour(2, 1);
        x.pour(3, 1);
        x.pour(4, 0);
        x.ticks(10);
        // Errors: -4 by 190, -2 by 190, 2 by 200, -2 by 190, 5 by 50.
        int[] due = {4, 0, 1, 2, 3};
        for (int rank = 0; rank < 5; rank++) {
            Check.due("20: rank " + rank, x.worst(rank), due[rank]);
        }
        Check.due("20: not so many", x.worst(5), Check.MISSING);
        Check.due("20: far", x.worst(Integer.MAX_VALUE), Check.MISSING);
    }

    private static void mean() {
        LeakingClocks x = new LeakingClocks();
        Check.due("21: no clock", x.mean(), Check.MISSING);
        x.clock(0, 1, 1);
        Check.due("21: 0", x.mean(), 0);
        x.clock(1, 60, 10);
        x.clock(2, 1, 1);
        x.pour(1, 0);
        x.ticks(1);
        Check.due("21: 5 of 3", x.mean(), Float.floatToIntBits(5.0f / 3.0f));
        x.pour(0, 2);
        Check.due("21: without signs", x.mean(), Float.floatToIntBits(705.0f / 3.0f));
        x.clock(1, 1, 1);
        x.clock(1, 1, 1);
        Check.due("21: of 5", x.mean(), Float.floatToIntBits(141.0f));
        LeakingClocks y = new LeakingClocks();
        for (int k = 0; k < 5; k++) {
            y.clock(1, 60, 50);
        }
        y.pour(0, 0);
        y.ticks(2);
        Check.due("21: below 1", y.mean(), Float.floatToIntBits(1.0f / 5.0f));
        y.set(3, 1);
        for (int k = 0; k < 100; k++) {
            y.ticks(999);
        }
        int together = 0;
        for (int k = 0; k < 5; k++) {
            together += Math.abs(y.hour(k, 1) - 10000);
        }
        Check.due("21: great errors", y.mean(), Float.floatToIntBits(together / 5.0f));
    }

    private static void count() {
        LeakingClocks x = new LeakingClocks();
        for (int what : new int[] {-1, 13, 19, 26, Integer.MIN_VALUE, Integer.MAX_VALUE}) {
            Check.due("22: " + what, x.count(what), Check.INVALID);
        }
        Check.due("22: ticks until noon", x.count(8), 240);
        x.set(3, 1);
        x.set(1, 20);
        x.clock(0, 60, 10);
        x.clock(1, 60, 10);
        x.clock(2, 60, 10);
        x.pour(0, 0);
        x.pour(2, 0);
        Check.due("22: off, above 1", x.count(2), 1);
        Check.due("22: empty", x.count(3), 2);
        x.set(4, 5);
        Check.due("22: an error of setting 4 is not off", x.count(2), 0);
        x.set(4, 4);
        Check.due("22: one above it is", x.count(2), 1);
        x.ticks(7);
        Check.due("22: all empty", x.count(3), 7);
        Check.due("22: below as well", x.count(2), 3 | 4);
        Check.due("22: now", x.count(0), 7);
        Check.due("22: clocks", x.count(1), 3);
        Check.due("22: until noon", x.count(8), 5);
        Check.due("22: strokes", x.count(7), 1);
        Check.due("22: jugs", x.count(9), 2);
        x.ticks(5);
        Check.due("22: noons", x.count(4), 1);
        Check.due("22: off at noons", x.count(5), 3);
        Check.due("22: until noon again", x.count(8), 12);
        Check.due("22: in the book", x.count(10), 1);
        x.trueUp(0);
        x.pitch(1, 3);
        Check.due("22: trued", x.count(6), 2);
        Check.due("22: states", x.count(11), 4);
        x.type('a');
        Check.due("22: length of the text", x.count(12), 1);
        Check.due("22: setting 1", x.count(21), 20);
        Check.due("22: setting 5", x.count(25), 0);
    }

    private static void askingChangesNothing() {
        LeakingClocks x = new LeakingClocks();
        x.clock(2, 20, 30);
        x.clock(0, 30, 20);
        x.lead(0, 1);
        x.pour(0, 2);
        x.pour(1, 2);
        x.ticks(11);
        int[] view = Check.view(x);
        int states = x.count(11);
        Check.same("asking changes nothing", Check.view(x), view);
        Check.due("nor the history", x.count(11), states);
    }
}
