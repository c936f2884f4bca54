/** The boundary cases of 'Water' and 'Settings', and of promises 9, 14 and 16; above each test the words that it is for. */
public final class EdgesOfWaterTest {
    private static final int[] JUGS = {50, 200, 700};
    private static final int[] LEAST = {500, 20, 50, 1, 0, 0};
    private static final int[] MOST = {5000, 900, 5000, 30, 12, 1};
    private static final int[] FIRST = {2000, 240, 400, 20, 1, 0};

    public static void main(String[] args) {
        cisternAtFirst();
        threeJugs();
        cisternHasLess();
        cisternIsEmpty();
        vesselIsFull();
        vesselIsFullerThanFull();
        firstOfTheReasons();
        reasonOfNone();
        allOfTheJugIsPoured();
        firstSettings();
        settingsAtTheirEnds();
        settingsOutOfRange();
        noSuchSetting();
        setToTheSame();
        vesselsKeepWhatTheyHave();
        siphonsKeepWhatTheyHave();
        vesselsBearMoreAgain();
        waterOfEachKind();
        noSuchWater();
        ranOverLeftNoVessel();
        allWaterTogether();
        Check.end();
    }

    /** "The cistern has 20000 drops at first." */
    private static void cisternAtFirst() {
        LeakingClocks x = new LeakingClocks();
        Check.due("cistern", x.water(0), 20000);
        Check.due("all together", x.water(5), 20000);
        Check.due("poured", x.water(6), 0);
    }

    /** "There are 3 jugs of 50, 200 and 700 drops." */
    private static void threeJugs() {
        for (int jug = 0; jug < 3; jug++) {
            LeakingClocks x = new LeakingClocks();
            x.clock(0, 1, 1);
            Check.due("runs over", x.pour(0, jug), 0);
            Check.due("upper", x.clockOf(0, 1), JUGS[jug]);
            Check.due("cistern", x.water(0), 20000 - JUGS[jug]);
            Check.due("poured from it", x.water(6), JUGS[jug]);
        }
        Edges.refused("jug -1", Edges::busy, x -> x.pour(0, -1), Check.INVALID);
        Edges.refused("jug 3", Edges::busy, x -> x.pour(0, 3), Check.INVALID);
    }

    /** "A jug is not poured for the first of these reasons: 1 the cistern has less" - just as much is enough. */
    private static void cisternHasLess() {
        for (int jug = 0; jug < 3; jug++) {
            int enough = JUGS[jug];
            LeakingClocks x = Edges.cistern(enough);
            x.ticks(300);
            Check.due("as much", x.water(0), enough);
            Check.due("can be poured", x.why(0, jug), 0);
            Check.due("is poured", x.pour(0, jug), 0);
            Check.due("nothing is left", x.water(0), 0);
            LeakingClocks y = Edges.cistern(enough - 50);
            y.ticks(300);
            Check.due("less", y.water(0), enough - 50);
            Check.due("can't be poured", y.why(0, jug), 1);
            Check.due("is not poured", y.pour(0, jug), Check.IMPOSSIBLE);
            Check.due("is left as it was", y.water(0), enough - 50);
            Check.due("nothing comes", y.clockOf(0, 1), 0);
        }
    }

    /** "1 the cistern has less" - of an empty one for each jug. */
    private static void cisternIsEmpty() {
        for (int jug = 0; jug < 3; jug++) {
            int each = jug;
            Check.due("empty", Edges.cistern(0).why(0, jug), 1);
            Edges.refused("of an empty cistern", () -> Edges.cistern(0), x -> x.pour(0, each), Check.IMPOSSIBLE);
        }
    }

    /** "2 the upper vessel is full" - with one drop less it is not. */
    private static void vesselIsFull() {
        LeakingClocks x = Edges.full();
        for (int jug = 0; jug < 3; jug++) {
            int each = jug;
            Check.due("full", x.why(0, jug), 2);
            Check.due("the other one is empty", x.why(1, jug), 0);
            Edges.refused("into a full one", Edges::full, y -> y.pour(0, each), Check.IMPOSSIBLE);
        }
        x.set(0, 501);
        Check.due("500 of 501", x.why(0, 0), 0);
        Check.due("one drop is borne", x.pour(0, 0), 49);
        Check.due("501 of 501", x.why(0, 0), 2);
    }

    /** "2 the upper vessel is full" - also if it has more than it bears now. */
    private static void vesselIsFullerThanFull() {
        LeakingClocks x = new LeakingClocks();
        x.clock(0, 1, 1);
        x.pour(0, 2);
        x.set(0, 699);
        Check.due("700 of 699", x.why(0, 0), 2);
        Check.due("not poured", x.pour(0, 0), Check.IMPOSSIBLE);
        x.ticks(1);
        Check.due("699 of 699", x.why(0, 0), 2);
        x.ticks(1);
        Check.due("698 of 699", x.why(0, 0), 0);
        Check.due("poured", x.pour(0, 0), 49);
    }

    /** "for the first of these reasons" */
    private static void firstOfTheReasons() {
        LeakingClocks x = Edges.cistern(50);
        x.set(0, 500);
        Check.due("less, and full", x.why(0, 1), 1);
        Check.due("not less, and full", x.why(0, 0), 2);
        x.ticks(300);
        Check.due("less, and not full", x.why(0, 1), 1);
        Check.due("neither", x.why(0, 0), 0);
    }

    /** "Returns the reason, 0 if it can be poured" - what it answers is what pour() does. */
    private static void reasonOfNone() {
        Edges.outside("why, jug", Edges::busy, (x, jug) -> x.why(0, jug), 0, 2);
        Edges.noClock("why, clock", (x, clock) -> x.why(clock, 0));
        for (int clock = 0; clock < 2; clock++) {
            for (int jug = 0; jug < 3; jug++) {
                LeakingClocks x = Edges.full();
                boolean poured = x.why(clock, jug) == 0;
                Check.due("why and pour", x.pour(clock, jug) >= 0 ? 1 : 0, poured ? 1 : 0);
            }
        }
        Check.due("none by itself", Edges.full().why(1, 0), 0);
    }

    /** "to fill it from the cistern, and to pour all of it" - also what runs over came from the cistern. */
    private static void allOfTheJugIsPoured() {
        LeakingClocks x = new LeakingClocks();
        x.set(0, 500);
        x.clock(1, 1, 1);
        Check.due("200 run over", x.pour(0, 2), 200);
        Check.due("700 from the cistern", x.water(0), 19300);
        Check.due("poured from it", x.water(6), 700);
        Check.due("poured into it", x.clockOf(0, 9), 700);
        Check.due("on the floor", x.water(4), 200);
        Check.due("jugs", x.count(9), 1);
        Check.due("not wasted", x.water(3), 0);
    }

    /** "The settings are (in parentheses: range; first value)" - the first values. */
    private static void firstSettings() {
        LeakingClocks x = new LeakingClocks();
        for (int what = 0; what < 6; what++) {
            Check.due("setting " + what, x.count(20 + what), FIRST[what]);
        }
    }

    /** "value: a value in its range", "Returns what it was" - the least and the most of each. */
    private static void settingsAtTheirEnds() {
        for (int what = 0; what < 6; what++) {
            LeakingClocks x = new LeakingClocks();
            Check.due("least of " + what, x.set(what, LEAST[what]), FIRST[what]);
            Check.due("is it", x.count(20 + what), LEAST[what]);
            Check.due("most of " + what, x.set(what, MOST[what]), LEAST[what]);
            Check.due("is it", x.count(20 + what), MOST[what]);
            Check.due("back", x.set(what, LEAST[what]), MOST[what]);
            for (int other = 0; other < 6; other++) {
                Check.due("of the others none", x.count(20 + other), other == what ? LEAST[what] : FIRST[other]);
            }
        }
    }

    /** "INVALID_ARGUMENT if an argument is out of range" - a value just outside of its range. */
    private static void settingsOutOfRange() {
        for (int what = 0; what < 6; what++) {
            int each = what;
            Edges.outside("setting " + what, Edges::busy, (x, value) -> x.set(each, value), LEAST[what], MOST[what]);
        }
    }

    /** "what: 0 to 5" */
    private static void noSuchSetting() {
        for (int value : new int[] {-1, 0, 1, 12, 20, 500, 5000}) {
            Edges.outside("set to " + value + ", what", Edges::busy, (x, what) -> x.set(what, value), 0, 5);
        }
        Edges.refused("set, both", Edges::busy, x -> x.set(-1, -1), Check.INVALID);
    }

    /** "Returns what it was" - a value that it has is in its range, too. */
    private static void setToTheSame() {
        for (int what = 0; what < 6; what++) {
            LeakingClocks x = new LeakingClocks();
            Check.due("what it was", x.set(what, FIRST[what]), FIRST[what]);
            Check.due("is a change", x.count(11), 1);
        }
    }

    /** "Vessels that bear less from now on keep what they have; nothing runs over by that." */
    private static void vesselsKeepWhatTheyHave() {
        LeakingClocks x = new LeakingClocks();
        x.clock(1, 60, 1);
        x.pour(0, 2);
        x.pour(0, 2);
        x.ticks(7);
        x.pour(0, 2);
        // 144, 135, 127, 119, 112, 105 and 99 of 1400 drip.
        Check.due("upper", x.clockOf(0, 1), 1259);
        Check.due("lower", x.clockOf(0, 2), 841);
        x.set(0, 500);
        Check.due("upper keeps", x.clockOf(0, 1), 1259);
        Check.due("lower keeps", x.clockOf(0, 2), 841);
        Check.due("the floor is dry", x.water(4), 0);
        x.ticks(1);
        int drops = x.clockOf(0, 5) - 841;
        Check.due("lower bears no more", x.clockOf(0, 2), 841);
        Check.due("what comes runs over", x.water(4), drops);
        Check.due("upper drips on", x.clockOf(0, 1), 1259 - drops);
    }

    /** "Vessels that bear less from now on keep what they have" - the lower one of a siphon, until the next tick. */
    private static void siphonsKeepWhatTheyHave() {
        LeakingClocks x = new LeakingClocks();
        x.clock(2, 60, 1);
        x.pour(0, 1);
        x.ticks(3);
        int lower = x.clockOf(0, 2);
        Check.due("72, 67 and 61", lower, 200);
        x.set(1, 20);
        Check.due("keeps", x.clockOf(0, 2), 200);
        Check.due("no stroke", x.clockOf(0, 7), 0);
        Check.due("none on the floor", x.water(4), 0);
        Check.due("its hour", x.hour(0, 0), 10200);
        x.ticks(1);
        Check.due("a stroke", x.clockOf(0, 7), 1);
        Check.due("all wasted", x.water(3), 200);
        Check.due("counts 20", x.hour(0, 0), 10020);
    }

    /** "0 drops of a vessel" - one that bears more from now on has room at once. */
    private static void vesselsBearMoreAgain() {
        LeakingClocks x = Edges.full();
        x.set(0, 550);
        Check.due("50 drops more", x.pour(0, 0), 0);
        Check.due("full", x.why(0, 0), 2);
        x.set(0, 549);
        x.set(0, 551);
        Check.due("one more", x.pour(0, 0), 49);
    }

    /** "0: the cistern; 1: in upper vessels; .." - each by itself, of a run in which all differ. */
    private static void waterOfEachKind() {
        LeakingClocks x = new LeakingClocks();
        x.set(0, 500);
        x.set(1, 100);
        x.clock(0, 10, 1);
        x.clock(2, 60, 1);
        x.clock(1, 30, 1);
        x.lead(0, 1);
        x.pour(0, 2);
        x.pour(1, 2);
        x.pour(2, 0);
        // 15 go from 500 into the full one, where they run over; 90 of 500 into its lower vessel; 31 of 50.
        Check.due("drips", x.ticks(1), 136);
        int[] due = {18550, 485 + 410 + 19, 121, 0, 200 + 200 + 15, 20000, 1450, 136, 136, 0};
        for (int what = 0; what < due.length; what++) {
            Check.due("water " + what, x.water(what), due[what]);
        }
        // 14 go into the siphon, which drips 60 and 60 * 424 / 1000 then, a stroke of 175; the rising one has 19.
        Check.due("drips", x.ticks(1), 14 + 85 + 19);
        int[] then = {18550, 471 + 339, 50, 175, 415, 20000, 1450, 254, 254, 175};
        for (int what = 0; what < then.length; what++) {
            Check.due("water " + what + " then", x.water(what), then[what]);
        }
    }

    /** "INVALID_ARGUMENT if what is out of range" - 0 to 9 are in it, without clocks, too. */
    private static void noSuchWater() {
        Edges.outside("water", Edges::busy, (x, what) -> x.water(what), 0, 9);
        LeakingClocks x = new LeakingClocks();
        for (int what = 0; what < 10; what++) {
            Check.due("water " + what, x.water(what), what == 0 || what == 5 ? 20000 : 0);
        }
    }

    /** "poured and led into them, less what ran over as it came there, less what is in them now" */
    private static void ranOverLeftNoVessel() {
        LeakingClocks x = Edges.full();
        Check.due("200 ran over, 500 are there", x.water(8), 0);
        x.lead(0, 1);
        x.ticks(1);
        // 20 and 20 * 500 / 1000, of which the other one drips 1.
        Check.due("30 and 1", x.water(8), 31);
        Check.due("dripped", x.water(7), 31);
    }

    /** "5: all of these together" - no drop is lost, whatever is done. */
    private static void allWaterTogether() {
        LeakingClocks x = Edges.busyWithFive();
        x.lead(1, 3);
        x.lead(4, 4);
        x.set(0, 500);
        x.set(1, 20);
        x.set(2, 50);
        for (int k = 0; k < 60; k++) {
            x.pour(k % 5, k % 3);
            x.ticks(1 + k % 7);
            Check.due("all together", x.water(5), 20000);
            Check.due("dripped, told in two ways", x.water(7), x.water(8));
        }
        Check.due("something ran over", x.water(4) > 0 ? 1 : 0, 1);
        Check.due("something was wasted", x.water(3) > 0 ? 1 : 0, 1);
    }
}
