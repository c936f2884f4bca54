/** The boundary cases of the public face and of promises 1 to 8; above each test the words that it is for. */
public final class EdgesOfCallsTest {
    private static final int LAST = 99999;

    public static void main(String[] args) {
        constants();
        newObject();
        newObjectsAreApart();
        calls512();
        clockRanges();
        clockAtItsEnds();
        leadRanges();
        leadReturns();
        pourRanges();
        pourReturns();
        waxRanges();
        waxDownTo1();
        pitchRanges();
        pitchAtItsEnds();
        pitchTrues();
        trueUpRanges();
        trueUpReturns();
        trueUpCountsFromThen();
        ticksRanges();
        ticksAtTheirEnds();
        ticksUpToTheLast();
        ticksAboveTheLast();
        ticksOfAllClocks();
        Check.end();
    }

    /** "INVALID_ARGUMENT = -1000001" and the other three */
    private static void constants() {
        Check.due("INVALID_ARGUMENT", LeakingClocks.INVALID_ARGUMENT, -1000001);
        Check.due("NOT_POSSIBLE", LeakingClocks.NOT_POSSIBLE, -1000002);
        Check.due("LIMIT_REACHED", LeakingClocks.LIMIT_REACHED, -1000003);
        Check.due("NOT_FOUND", LeakingClocks.NOT_FOUND, -1000004);
    }

    /** "Begins without clocks, with a full cistern." - and with nothing else. */
    private static void newObject() {
        LeakingClocks x = new LeakingClocks();
        Check.due("clocks", x.count(1), 0);
        Check.due("clock 0", x.clockOf(0, 0), Check.INVALID);
        Check.due("the worst", x.worst(0), Check.MISSING);
        Check.due("the mean", x.mean(), Check.MISSING);
        Check.due("cistern", x.water(0), 20000);
        Check.due("now", x.count(0), 0);
        Check.due("noons", x.noon(0, 0), Check.MISSING);
        Check.due("no image 0", x.back(0), Check.IMPOSSIBLE);
        Check.due("no image 1", x.back(1), Check.IMPOSSIBLE);
        Check.due("no state", x.undo(), Check.IMPOSSIBLE);
        Check.due("no text", x.clearText(), 0);
        Check.due("no fault", x.fault(0), Check.MISSING);
    }

    /** "Begins without clocks, with a full cistern." - also beside objects that were used. */
    private static void newObjectsAreApart() {
        int[] first = Check.view(new LeakingClocks());
        LeakingClocks used = Edges.busy();
        used.set(0, 500);
        Check.same("a new object", Check.view(new LeakingClocks()), first);
        LeakingClocks other = Edges.busy();
        other.clock(1, 1, 1);
        Check.due("the one without the other", used.count(1), 3);
    }

    /** "An object is used for at most 512 calls" - the last of them is answered as the first. */
    private static void calls512() {
        LeakingClocks x = new LeakingClocks();
        x.clock(1, 60, 1);
        x.pour(0, 0);
        x.ticks(1);
        for (int call = 4; call <= 511; call++) {
            Check.due("lower, call " + call, x.clockOf(0, 2), 50);
        }
        Check.due("call 512", x.ticks(1), 0);
        LeakingClocks y = new LeakingClocks();
        for (int call = 1; call <= 512; call++) {
            Check.due("call " + call, y.set(4, call % 13), call == 1 ? 1 : (call - 1) % 13);
        }
    }

    /** Promise 2: "kind: 0 sinking, 1 rising, 2 siphon", "width: 1 to 60", "pitch: 1 to 500" */
    private static void clockRanges() {
        Edges.outside("clock, kind", Edges::busy, (x, kind) -> x.clock(kind, 9, 9), 0, 2);
        Edges.outside("clock, width", Edges::busy, (x, width) -> x.clock(0, width, 9), 1, 60);
        Edges.outside("clock, pitch", Edges::busy, (x, pitch) -> x.clock(0, 9, pitch), 1, 500);
        Edges.refused("clock, all", Edges::busy, x -> x.clock(-1, 0, 501), Check.INVALID);
    }

    /** Promise 2: "Returns its number" - of the least and the most of each. */
    private static void clockAtItsEnds() {
        LeakingClocks x = new LeakingClocks();
        int[][] clocks = {{0, 1, 1}, {1, 60, 1}, {2, 1, 500}, {2, 60, 500}, {0, 60, 1}};
        for (int k = 0; k < 5; k++) {
            Check.due("clock " + k, x.clock(clocks[k][0], clocks[k][1], clocks[k][2]), k);
            Check.due("kind", x.clockOf(k, 0), clocks[k][0]);
            Check.due("width", x.clockOf(k, 3), clocks[k][1]);
            Check.due("pitch", x.clockOf(k, 4), clocks[k][2]);
        }
    }

    /** Promise 3: "INVALID_ARGUMENT if there is no such clock, or to is less than clock" */
    private static void leadRanges() {
        Edges.noClock("lead, clock", (x, clock) -> x.lead(clock, clock));
        Edges.noClock("lead, clock, on to the first", (x, clock) -> x.lead(clock, 0));
        Edges.outside("lead, to", Edges::busy, (x, to) -> x.lead(0, to), 0, 2);
        Edges.outside("lead, to, of a later one", Edges::busy, (x, to) -> x.lead(1, to), 1, 2);
        Edges.refused("lead to none such, of one that is led nowhere", Edges::full, x -> x.lead(0, 2), Check.INVALID);
    }

    /** Promise 3: "Returns the clock to which it was led, the clock itself if to none" */
    private static void leadReturns() {
        LeakingClocks x = Edges.busyWithFive();
        Check.due("was led to 1", x.lead(0, 4), 1);
        Check.due("was led to 4", x.lead(0, 4), 4);
        Check.due("was led to 4, too", x.lead(0, 0), 4);
        Check.due("was led to none", x.lead(0, 0), 0);
        Check.due("is led to none", x.clockOf(0, 8), Check.MISSING);
        Check.due("was led to none, too", x.lead(0, 1), 0);
        Check.due("the last one", x.lead(4, 4), 4);
        Check.due("is a change each time", x.count(11), 4);
    }

    /** Promise 4: "clock: number of the clock", "jug: 0 to 2" */
    private static void pourRanges() {
        Edges.noClock("pour, clock", (x, clock) -> x.pour(clock, 0));
        Edges.outside("pour, jug", Edges::busy, (x, jug) -> x.pour(0, jug), 0, 2);
        Edges.outside("pour, jug, into a full one", Edges::full, (x, jug) -> x.pour(0, jug), 0, 2);
    }

    /** Promise 4: "Returns how many drops run over" - none, one and all but one. */
    private static void pourReturns() {
        for (int room : new int[] {49, 50, 51}) {
            LeakingClocks x = new LeakingClocks();
            x.clock(0, 1, 1);
            x.pour(0, 2);
            x.set(0, 700 + room);
            int over = room == 49 ? 1 : 0;
            Check.due("into room for " + room, x.pour(0, 0), over);
            Check.due("upper", x.clockOf(0, 1), 750 - over);
            Check.due("floor", x.water(4), over);
        }
        LeakingClocks x = new LeakingClocks();
        x.clock(0, 1, 1);
        x.pour(0, 2);
        x.set(0, 701);
        Check.due("all but one", x.pour(0, 2), 699);
    }

    /** Promise 5: "wax: 1 to 59: by how much" */
    private static void waxRanges() {
        Edges.noClock("wax, clock", (x, clock) -> x.wax(clock, 1));
        Edges.outside("wax", Edges::busyWithFive, (x, wax) -> x.wax(3, wax), 1, 59);
        Edges.outside("wax, of a hole of 1", Edges::busyWithFive, (x, wax) -> x.wax(4, wax), 1, 59);
    }

    /** Promise 5: "Returns its width then", "NOT_POSSIBLE if it would be below 1" */
    private static void waxDownTo1() {
        LeakingClocks x = new LeakingClocks();
        x.clock(0, 60, 1);
        Check.due("1 of 60", x.wax(0, 1), 59);
        Check.due("58 of 59", x.wax(0, 58), 1);
        Check.due("1 of 1", x.wax(0, 1), Check.IMPOSSIBLE);
        Check.due("stays 1", x.clockOf(0, 3), 1);
        x.clock(0, 60, 1);
        Check.due("59 of 60", x.wax(1, 59), 1);
        x.clock(0, 59, 1);
        Check.due("59 of 59", x.wax(2, 59), Check.IMPOSSIBLE);
        Check.due("58 of 59", x.wax(2, 58), 1);
        Edges.refused("a hole of 0", Edges::full, y -> y.wax(0, 20), Check.IMPOSSIBLE);
        Edges.refused("a hole below 0", Edges::full, y -> y.wax(0, 59), Check.IMPOSSIBLE);
        Edges.refused("less than a hole of 1", Edges::full, y -> y.wax(1, 1), Check.IMPOSSIBLE);
    }

    /** Promise 6: "clock: number of the clock", "pitch: 1 to 500" */
    private static void pitchRanges() {
        Edges.noClock("pitch, clock", (x, clock) -> x.pitch(clock, 9));
        Edges.outside("pitch", Edges::busy, (x, pitch) -> x.pitch(1, pitch), 1, 500);
    }

    /** Promise 6: "Returns the previous one" */
    private static void pitchAtItsEnds() {
        LeakingClocks x = new LeakingClocks();
        x.clock(1, 60, 7);
        Check.due("was 7", x.pitch(0, 1), 7);
        Check.due("is 1", x.clockOf(0, 4), 1);
        Check.due("was 1", x.pitch(0, 500), 1);
        Check.due("is 500", x.clockOf(0, 4), 500);
        Check.due("was 500", x.pitch(0, 500), 500);
        x.pour(0, 2);
        x.ticks(19);
        Check.due("700 by 500", x.hour(0, 0), 10001);
    }

    /** Promise 6: "Changes the pitch of a clock, which is trued by that." - also if the pitch is the same. */
    private static void pitchTrues() {
        LeakingClocks x = new LeakingClocks();
        x.clock(1, 60, 10);
        x.pour(0, 0);
        x.ticks(20);
        Check.due("5 hours for 1", x.hour(0, 1), 10004);
        x.pitch(0, 10);
        Check.due("no error", x.hour(0, 1), 10000);
        Check.due("trued", x.clockOf(0, 10), 1);
        x.pitch(0, 10);
        Check.due("trued though it had no error", x.clockOf(0, 10), 2);
        x.pour(0, 0);
        x.ticks(1);
        Check.due("5 hours on", x.hour(0, 0), 10006);
    }

    /** Promise 7: "clock: number of the clock" */
    private static void trueUpRanges() {
        Edges.noClock("trueUp", (x, clock) -> x.trueUp(clock));
    }

    /** Promise 7: "Returns the error that it had, and 10000, together" - none, above and below 0. */
    private static void trueUpReturns() {
        LeakingClocks x = new LeakingClocks();
        x.clock(1, 60, 50);
        x.clock(0, 60, 50);
        Check.due("none", x.trueUp(0), 10000);
        Check.due("is counted", x.clockOf(0, 10), 1);
        x.pour(0, 0);
        x.ticks(1);
        Check.due("an hour ahead", x.trueUp(0), 10001);
        Check.due("none now", x.trueUp(0), 10000);
        x.pour(1, 0);
        Check.due("an hour behind", x.trueUp(1), 9999);
        x.ticks(1);
        Check.due("and ahead again", x.trueUp(1), 10001);
        x.ticks(18);
        Check.due("the true hour is 1", x.trueUp(1), 9999);
        Check.due("each counted", x.count(6), 6);
    }

    /** Promise 7: "Trues a clock: it tells the true hour now." - the drops that it counted then count no more. */
    private static void trueUpCountsFromThen() {
        LeakingClocks x = new LeakingClocks();
        x.clock(0, 1, 10);
        x.pour(0, 0);
        x.ticks(1);
        // 1 drop of 10 ahead of truing; it needs 10 more.
        x.trueUp(0);
        Check.due("the true hour", x.hour(0, 0), 10000);
        x.ticks(9);
        Check.due("9 drops more", x.hour(0, 0), 10000);
        x.ticks(1);
        Check.due("10 drops more", x.hour(0, 0), 10001);
        x.pour(0, 0);
        Check.due("50 back", x.hour(0, 0), 9996);
    }

    /** Promise 8: "many: 1 to 999" */
    private static void ticksRanges() {
        Edges.outside("ticks", Edges::busy, (x, many) -> x.ticks(many), 1, 999);
        Edges.outside("ticks, at the last", () -> Edges.at(LAST), (x, many) -> x.ticks(many), 1, 999);
    }

    /** Promise 8: "many: 1 to 999" - the least and the most. */
    private static void ticksAtTheirEnds() {
        LeakingClocks x = new LeakingClocks();
        x.clock(0, 1, 1);
        x.pour(0, 2);
        x.pour(0, 0);
        Check.due("1", x.ticks(1), 1);
        Check.due("now", x.count(0), 1);
        Check.due("999", x.ticks(999), 749);
        Check.due("now", x.count(0), 1000);
    }

    /** Promise 8: "LIMIT_REACHED if now would be above 99999" - up to it is not. */
    private static void ticksUpToTheLast() {
        LeakingClocks x = Edges.at(LAST - 999);
        x.pour(1, 2);
        Check.due("999 to the last", x.ticks(999), 700);
        Check.due("now", x.count(0), LAST);
        Check.due("its hour", x.hour(0, 2), 4999);
        Check.due("noons", x.count(4), 416);
        LeakingClocks y = Edges.at(LAST - 1);
        Check.due("1 to the last", y.ticks(1), 0);
        Check.due("now", y.count(0), LAST);
        Check.due("set goes on", y.set(3, 1), 20);
        Check.due("the last hour", y.hour(0, 2), LAST);
        Check.due("its error", y.hour(0, 1), 10000 - LAST);
        Check.due("until a noon that does not come", y.count(8), 9);
    }

    /** Promise 8: "LIMIT_REACHED if now would be above 99999" */
    private static void ticksAboveTheLast() {
        Edges.refused("1 above", () -> Edges.at(LAST), x -> x.ticks(1), Check.LIMIT);
        Edges.refused("999 above", () -> Edges.at(LAST), x -> x.ticks(999), Check.LIMIT);
        Edges.refused("2 of 1", () -> Edges.at(LAST - 1), x -> x.ticks(2), Check.LIMIT);
        Edges.refused("999 of 998", () -> Edges.at(LAST - 998), x -> x.ticks(999), Check.LIMIT);
    }

    /** Promise 8: "Returns how many drops drip in them, of all clocks together" - each time that a drop drips. */
    private static void ticksOfAllClocks() {
        LeakingClocks x = new LeakingClocks();
        Check.due("without clocks", x.ticks(999), 0);
        for (int k = 0; k < 5; k++) {
            x.clock(0, 60, 1);
        }
        Check.due("of empty ones", x.ticks(1), 0);
        for (int k = 0; k < 4; k++) {
            x.lead(k, k + 1);
        }
        x.pour(0, 0);
        Check.due("5 times 50", x.ticks(1), 250);
        Check.due("dripped so far", x.water(7), 250);
    }
}
