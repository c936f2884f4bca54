/** The boundary cases of the section 'Clocks'; each test is for the words of the document that stand above it. */
public final class EdgesOfClocksTest {
    public static void main(String[] args) {
        atMostFive();
        numberedAsTheyCame();
        kinds();
        upperVesselBearsSetting0();
        lowerVesselOfARisingOneBearsSetting0();
        lowerVesselOfASiphonBearsSetting1();
        allVesselsEmptyAtFirst();
        emptyAlsoBehindAnUndoneClock();
        ledToAGreaterNumber();
        ledOnOrToWaste();
        runsOverByOneDrop();
        runsOverOfAStroke();
        runsOverIntoAVesselAboveItsBound();
        countsOfASinkingOne();
        countsOfARisingOne();
        countsOfASiphon();
        hourIsRoundedDown();
        hourBelowZeroIsRoundedDown();
        hourAtWhichItWasTrued();
        comesTrued();
        Check.end();
    }

    /** "There are at most 5 clocks" */
    private static void atMostFive() {
        LeakingClocks x = new LeakingClocks();
        for (int k = 0; k < 5; k++) {
            Check.due("a clock, " + k, x.clock(2, 60, 500), k);
            Check.due("clocks", x.count(1), k + 1);
        }
        Check.due("a sixth one", x.clock(0, 1, 1), Check.LIMIT);
        Check.due("five", x.count(1), 5);
        Check.due("no clock 5", x.clockOf(5, 0), Check.INVALID);
        x.undo();
        Check.due("the fifth again", x.clock(0, 1, 1), 4);
        Edges.refused("a sixth clock", Edges::busyWithFive, y -> y.clock(0, 1, 1), Check.LIMIT);
    }

    /** "numbered from 0 in the order in which they came" */
    private static void numberedAsTheyCame() {
        LeakingClocks x = new LeakingClocks();
        for (int k = 0; k < 5; k++) {
            x.clock((k + 1) % 3, 10 + k, 100 + k);
        }
        for (int k = 0; k < 5; k++) {
            Check.due("kind of " + k, x.clockOf(k, 0), (k + 1) % 3);
            Check.due("width of " + k, x.clockOf(k, 3), 10 + k);
            Check.due("pitch of " + k, x.clockOf(k, 4), 100 + k);
        }
    }

    /** "each of a kind: 0 sinking, 1 rising, 2 siphon" */
    private static void kinds() {
        int[] lower = {Check.MISSING, 50, 0};
        int[] wasted = {50, 0, 50};
        for (int kind = 0; kind < 3; kind++) {
            LeakingClocks x = new LeakingClocks();
            x.set(1, 20);
            x.clock(kind, 60, 1);
            x.pour(0, 0);
            x.ticks(1);
            Check.due("kind", x.clockOf(0, 0), kind);
            Check.due("lower vessel of kind " + kind, x.clockOf(0, 2), lower[kind]);
            Check.due("waste of kind " + kind, x.water(3), wasted[kind]);
        }
    }

    /** "A clock has an upper vessel, which bears setting 0 drops" */
    private static void upperVesselBearsSetting0() {
        LeakingClocks x = new LeakingClocks();
        x.set(0, 500);
        x.clock(0, 1, 1);
        x.pour(0, 1);
        x.pour(0, 1);
        Check.due("450 of 500", x.pour(0, 0), 0);
        Check.due("500 of 500", x.pour(0, 0), 0);
        Check.due("none on the floor", x.water(4), 0);
        Check.due("full", x.pour(0, 0), Check.IMPOSSIBLE);
        x.ticks(1);
        Check.due("room for one drop", x.pour(0, 0), 49);
        Check.due("full again", x.clockOf(0, 1), 500);

        LeakingClocks y = new LeakingClocks();
        y.clock(0, 1, 1);
        y.pour(0, 2);
        y.pour(0, 2);
        y.pour(0, 1);
        y.pour(0, 1);
        Check.due("just 2000 at first", y.pour(0, 1), 0);
        Check.due("2000", y.clockOf(0, 1), 2000);
        y.set(0, 2001);
        Check.due("room for one drop by setting 0", y.pour(0, 0), 49);
        y.set(0, 5000);
        for (int k = 0; k < 4; k++) {
            y.pour(0, 2);
        }
        Check.due("4801 and 200 of 5000", y.pour(0, 1), 1);
        Check.due("5000", y.clockOf(0, 1), 5000);
        Check.due("full of 5000", y.pour(0, 0), Check.IMPOSSIBLE);
    }

    /** "A rising clock and a siphon have a lower vessel, too; that of a rising clock bears setting 0 drops" */
    private static void lowerVesselOfARisingOneBearsSetting0() {
        LeakingClocks x = new LeakingClocks();
        x.set(0, 500);
        x.clock(1, 60, 1);
        x.pour(0, 1);
        x.pour(0, 1);
        x.pour(0, 0);
        x.pour(0, 0);
        x.ticks(30);
        Check.due("just full", x.clockOf(0, 2), 500);
        Check.due("nothing runs over", x.water(4), 0);
        x.set(0, 501);
        x.pour(0, 0);
        x.ticks(1);
        Check.due("one drop more", x.clockOf(0, 2), 501);
        Check.due("the others run over", x.water(4), 49);
        x.pour(0, 0);
        x.ticks(1);
        Check.due("no drop more", x.clockOf(0, 2), 501);
        Check.due("all run over", x.water(4), 99);
        Check.due("nothing is wasted", x.water(3), 0);
    }

    /** "that of a siphon setting 1" - and setting 0 does not bind it, nor does any of it run over. */
    private static void lowerVesselOfASiphonBearsSetting1() {
        LeakingClocks x = new LeakingClocks();
        x.set(0, 500);
        x.set(1, 900);
        x.clock(2, 60, 1);
        x.pour(0, 1);
        x.pour(0, 1);
        x.ticks(20);
        x.pour(0, 1);
        x.pour(0, 1);
        x.pour(0, 0);
        x.ticks(20);
        Check.due("850 drops", x.clockOf(0, 2), 850);
        Check.due("none on the floor", x.water(4), 0);
        Check.due("no stroke", x.clockOf(0, 7), 0);
        x.pour(0, 0);
        x.ticks(1);
        Check.due("900 are a stroke", x.clockOf(0, 7), 1);
        Check.due("empty then", x.clockOf(0, 2), 0);
    }

    /** "All vessels are empty at first." */
    private static void allVesselsEmptyAtFirst() {
        LeakingClocks x = new LeakingClocks();
        for (int kind = 0; kind < 3; kind++) {
            x.clock(kind, 60, 1);
            Check.due("upper of kind " + kind, x.clockOf(kind, 1), 0);
            Check.due("empty in", x.emptyIn(kind), 0);
        }
        Check.due("all empty", x.count(3), 7);
        Check.due("lower of a rising one", x.clockOf(1, 2), 0);
        Check.due("lower of a siphon", x.clockOf(2, 2), 0);
        Check.due("in upper ones", x.water(1), 0);
        Check.due("in lower ones", x.water(2), 0);
        Check.due("nothing drips", x.ticks(9), 0);
    }

    /** "All vessels are empty at first." - those of a clock that takes the number of one that was undone, too. */
    private static void emptyAlsoBehindAnUndoneClock() {
        LeakingClocks x = new LeakingClocks();
        x.clock(1, 60, 1);
        x.pour(0, 2);
        x.ticks(3);
        x.keep(0);
        for (int k = 0; k < 3; k++) {
            x.undo();
        }
        x.clock(1, 60, 1);
        int[] due = {1, 0, 0, 60, 1, 0, 0, Check.MISSING, Check.MISSING, 0, 0, 0};
        for (int what = 0; what < due.length; what++) {
            Check.due("figure " + what, x.clockOf(0, what), due[what]);
        }
        Check.due("its hour", x.hour(0, 0), 10000);
    }

    /** "A sinking clock or a siphon can be led to a clock with a greater number" */
    private static void ledToAGreaterNumber() {
        int[] kinds = {0, 2};
        for (int kind : kinds) {
            Edges.Made made = () -> {
                LeakingClocks y = new LeakingClocks();
                for (int k = 0; k < 5; k++) {
                    y.clock(kind, 9, 9);
                }
                return y;
            };
            LeakingClocks x = made.make();
            Check.due("to the next one", x.lead(1, 2), 1);
            Check.due("to the last one", x.lead(1, 4), 2);
            Check.due("to none", x.lead(1, 1), 4);
            Check.due("the last one to none", x.lead(4, 4), 4);
            Check.due("the one ahead of the last to it", x.lead(3, 4), 3);
            Edges.refused("to one below", made, y -> y.lead(1, 0), Check.INVALID);
            Edges.refused("to the one below the last", made, y -> y.lead(4, 3), Check.INVALID);
            Edges.refused("above the last", made, y -> y.lead(4, 5), Check.INVALID);
        }
        Edges.refused("a rising one on", Edges::busyWithFive, y -> y.lead(2, 3), Check.IMPOSSIBLE);
        Edges.refused("a rising one to none", Edges::busyWithFive, y -> y.lead(2, 2), Check.IMPOSSIBLE);
    }

    /** "then its water goes into the upper vessel of that one; otherwise to waste" */
    private static void ledOnOrToWaste() {
        for (int kind : new int[] {0, 2}) {
            LeakingClocks x = new LeakingClocks();
            x.set(1, 20);
            x.clock(kind, 60, 1);
            x.clock(0, 1, 1);
            x.clock(1, 1, 1);
            x.pour(0, 0);
            x.ticks(1);
            Check.due("wasted", x.water(3), 50);
            x.lead(0, 2);
            x.pour(0, 0);
            x.ticks(1);
            Check.due("wasted no more", x.water(3), 50);
            Check.due("in the upper vessel, less what dripped", x.clockOf(2, 1), 49);
            Check.due("not in that between", x.clockOf(1, 1), 0);
            x.lead(0, 0);
            x.pour(0, 0);
            x.ticks(1);
            Check.due("wasted again", x.water(3), 100);
        }
    }

    /** "What a vessel cannot bear runs over onto the floor." - of 50 drops into room for 50, and of 51. */
    private static void runsOverByOneDrop() {
        for (int width : new int[] {43, 42}) {
            LeakingClocks x = new LeakingClocks();
            x.clock(0, width, 1);
            x.clock(0, 1, 1);
            x.lead(0, 1);
            x.pour(0, 1);
            x.pour(1, 2);
            x.pour(1, 2);
            for (int k = 0; k < 11; k++) {
                x.pour(1, 0);
            }
            Check.due("1950 drops", x.clockOf(1, 1), 1950);
            // 43 and 43 * 200 / 1000, or 42 and 42 * 200 / 1000; the other one drips 1 and 1 * 2000 / 1000.
            Check.due("drips", x.ticks(1), width + 8 + 3);
            Check.due("on the floor", x.water(4), width == 43 ? 1 : 0);
            Check.due("full, less what dripped", x.clockOf(1, 1), 1997);
        }
    }

    /** "What a vessel cannot bear runs over onto the floor." - of a stroke of 51 drops into room for 50. */
    private static void runsOverOfAStroke() {
        for (int width : new int[] {43, 42}) {
            LeakingClocks x = new LeakingClocks();
            x.set(1, 20);
            x.clock(2, width, 1);
            x.clock(1, 1, 1);
            x.lead(0, 1);
            x.pour(0, 1);
            x.pour(1, 2);
            x.pour(1, 2);
            for (int k = 0; k < 11; k++) {
                x.pour(1, 0);
            }
            x.ticks(1);
            Check.due("on the floor", x.water(4), width == 43 ? 1 : 0);
            Check.due("let go", x.water(9), width + 8);
            Check.due("none is wasted", x.water(3), 0);
            Check.due("left upper vessels", x.water(8), width + 8 + 3);
        }
    }

    /** "What a vessel cannot bear runs over onto the floor." - of one that bears less than it has, all. */
    private static void runsOverIntoAVesselAboveItsBound() {
        LeakingClocks x = new LeakingClocks();
        x.clock(0, 60, 1);
        x.clock(0, 1, 1);
        x.lead(0, 1);
        x.pour(0, 0);
        x.pour(1, 2);
        x.set(0, 500);
        Check.due("drips", x.ticks(1), 51);
        Check.due("all on the floor", x.water(4), 50);
        Check.due("upper", x.clockOf(1, 1), 699);
    }

    /** "of a sinking one 0 less the water in its upper vessel" */
    private static void countsOfASinkingOne() {
        LeakingClocks x = new LeakingClocks();
        x.set(3, 30);
        x.clock(0, 1, 1);
        Check.due("empty", x.hour(0, 0), 10000);
        x.pour(0, 0);
        Check.due("50 drops", x.hour(0, 0), 9950);
        x.ticks(1);
        Check.due("a drop less", x.hour(0, 0), 9951);
        x.wax(0, 59);
        x.ticks(28);
        Check.due("29 drops less", x.hour(0, 0), 9979);
        Check.due("waste counts nothing", x.water(3), 29);
    }

    /** "of a rising one the water in its lower vessel" */
    private static void countsOfARisingOne() {
        LeakingClocks x = new LeakingClocks();
        x.set(0, 500);
        x.set(3, 30);
        x.clock(1, 60, 1);
        x.pour(0, 2);
        Check.due("nothing below", x.hour(0, 0), 10000);
        x.ticks(20);
        Check.due("500 drops", x.hour(0, 0), 10500);
        x.pour(0, 0);
        x.ticks(1);
        Check.due("what runs over counts nothing", x.hour(0, 0), 10500);
    }

    /** "of a siphon its strokes * setting 1 as it was with each of them, together, and the water in its lower vessel" */
    private static void countsOfASiphon() {
        LeakingClocks x = new LeakingClocks();
        x.set(1, 20);
        x.set(3, 30);
        x.clock(2, 60, 1);
        x.pour(0, 0);
        x.ticks(1);
        Check.due("a stroke of 50 counts 20", x.hour(0, 0), 10020);
        x.set(1, 900);
        Check.due("as it was", x.hour(0, 0), 10020);
        x.pour(0, 0);
        x.ticks(1);
        Check.due("and 50 in the lower vessel", x.hour(0, 0), 10070);
        x.set(1, 30);
        Check.due("not emptied yet", x.hour(0, 0), 10070);
        x.ticks(1);
        Check.due("20 and 30", x.hour(0, 0), 10050);
        x.set(1, 20);
        Check.due("20 and 30 still", x.hour(0, 0), 10050);
        x.pour(0, 0);
        x.ticks(1);
        Check.due("20, 30 and 20", x.hour(0, 0), 10070);
    }

    /** "(the drops that it counts now less those that it counted then) / its pitch, together" - 50 drops of it. */
    private static void hourIsRoundedDown() {
        LeakingClocks x = new LeakingClocks();
        int[] pitches = {25, 26, 49, 50, 51};
        int[] hours = {2, 1, 1, 1, 0};
        for (int k = 0; k < 5; k++) {
            x.clock(1, 60, pitches[k]);
            x.pour(k, 0);
        }
        x.ticks(1);
        for (int k = 0; k < 5; k++) {
            Check.due("50 drops by a pitch of " + pitches[k], x.hour(k, 0), 10000 + hours[k]);
        }
    }

    /** "All divisions are rounded down (also of numbers below 0)." - of 50 drops below 0. */
    private static void hourBelowZeroIsRoundedDown() {
        LeakingClocks x = new LeakingClocks();
        int[] pitches = {25, 26, 49, 50, 51};
        int[] hours = {-2, -2, -2, -1, -1};
        for (int k = 0; k < 5; k++) {
            x.clock(0, 60, pitches[k]);
            x.pour(k, 0);
        }
        for (int k = 0; k < 5; k++) {
            Check.due("-50 drops by a pitch of " + pitches[k], x.hour(k, 0), 10000 + hours[k]);
        }
        LeakingClocks y = new LeakingClocks();
        y.clock(0, 60, 500);
        y.pour(0, 0);
        Check.due("-50 drops by a pitch of 500", y.hour(0, 0), 9999);
        y.ticks(1);
        Check.due("0 drops", y.hour(0, 0), 10000);
    }

    /** "The hour that it tells is the hour at which it was trued last" - that hour stays, also if setting 3 changes. */
    private static void hourAtWhichItWasTrued() {
        LeakingClocks x = new LeakingClocks();
        x.clock(1, 60, 10);
        x.pour(0, 0);
        x.ticks(59);
        x.trueUp(0);
        Check.due("the last tick of hour 2", x.hour(0, 0), 10002);
        x.ticks(1);
        Check.due("still", x.hour(0, 0), 10002);
        x.trueUp(0);
        Check.due("the first tick of hour 3", x.hour(0, 0), 10003);
        x.set(3, 1);
        Check.due("with other hours", x.hour(0, 0), 10003);
        x.pour(0, 0);
        x.ticks(1);
        Check.due("and the drops since", x.hour(0, 0), 10008);
    }

    /** "A clock that comes is trued." */
    private static void comesTrued() {
        for (int tick = 39; tick < 41; tick++) {
            LeakingClocks x = new LeakingClocks();
            x.ticks(tick);
            for (int kind = 0; kind < 3; kind++) {
                x.clock(kind, 9, 9);
                Check.due("its hour", x.hour(kind, 0), 10000 + tick / 20);
                Check.due("no error", x.hour(kind, 1), 10000);
                Check.due("not counted", x.clockOf(kind, 10), 0);
            }
            Check.due("not counted together", x.count(6), 0);
        }
    }
}
