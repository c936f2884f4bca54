/** Promises 1 to 9: a new object, and the calls that change clocks. */
public final class ClocksTest {
    public static void main(String[] args) {
        newObject();
        clock();
        clockComesTrued();
        lead();
        pour();
        pourRunsOver();
        wax();
        pitch();
        trueUp();
        ticksDrip();
        ticksLimits();
        ticksWearHoles();
        ticksWearAtMostWidth();
        ticksStroke();
        ticksRunOver();
        ticksAtNoon();
        set();
        setKeepsWhatVesselsHold();
        Check.end();
    }

    private static void newObject() {
        LeakingClocks x = new LeakingClocks();
        Check.due("1: cistern", x.water(0), 20000);
        for (int what : new int[] {1, 2, 3, 4, 6, 7, 8, 9}) {
            Check.due("1: water " + what, x.water(what), 0);
        }
        Check.due("1: all water", x.water(5), 20000);
        for (int what : new int[] {0, 1, 2, 3, 4, 5, 6, 7, 9, 10, 11, 12}) {
            Check.due("1: count " + what, x.count(what), 0);
        }
        int[] first = {2000, 240, 400, 20, 1, 0};
        for (int what = 0; what < 6; what++) {
            Check.due("1: setting " + what, x.count(20 + what), first[what]);
        }
    }

    private static void clock() {
        LeakingClocks x = new LeakingClocks();
        Check.due("2: kind below", x.clock(-1, 1, 1), Check.INVALID);
        Check.due("2: kind above", x.clock(3, 1, 1), Check.INVALID);
        Check.due("2: width below", x.clock(0, 0, 1), Check.INVALID);
        Check.due("2: width above", x.clock(0, 61, 1), Check.INVALID);
        Check.due("2: pitch below", x.clock(0, 1, 0), Check.INVALID);
        Check.due("2: pitch above", x.clock(0, 1, 501), Check.INVALID);
        Check.due("2: far out", x.clock(Integer.MIN_VALUE, Integer.MAX_VALUE, Integer.MIN_VALUE), Check.INVALID);
        Check.due("2: none came", x.count(1), 0);
        Check.due("2: no change", x.count(11), 0);
        Check.due("2: least", x.clock(0, 1, 1), 0);
        Check.due("2: most", x.clock(2, 60, 500), 1);
        Check.due("2: third", x.clock(1, 7, 9), 2);
        Check.due("2: its kind", x.clockOf(2, 0), 1);
        Check.due("2: its width", x.clockOf(2, 3), 7);
        Check.due("2: its pitch", x.clockOf(2, 4), 9);
        Check.due("2: fourth", x.clock(1, 7, 9), 3);
        Check.due("2: fifth", x.clock(1, 7, 9), 4);
        Check.due("2: sixth", x.clock(1, 7, 9), Check.LIMIT);
        Check.due("2: invalid ahead of limit", x.clock(1, 7, 501), Check.INVALID);
        Check.due("2: five", x.count(1), 5);
    }

    private static void clockComesTrued() {
        LeakingClocks x = new LeakingClocks();
        x.ticks(45);
        x.clock(0, 1, 1);
        Check.due("2: tells the true hour", x.hour(0, 0), 10002);
        Check.due("2: without error", x.hour(0, 1), 10000);
        Check.due("2: not counted as trued", x.clockOf(0, 10), 0);
        Check.due("2: empty", x.clockOf(0, 1), 0);
    }

    private static void lead() {
        LeakingClocks x = new LeakingClocks();
        x.clock(0, 10, 100);
        x.clock(1, 10, 100);
        x.clock(2, 10, 100);
        Check.due("3: to a smaller one", x.lead(2, 0), Check.INVALID);
        Check.due("3: to none such", x.lead(0, 3), Check.INVALID);
        Check.due("3: none such", x.lead(3, 3), Check.INVALID);
        Check.due("3: below 0", x.lead(-1, 0), Check.INVALID);
        Check.due("3: to below 0", x.lead(0, -1), Check.INVALID);
        Check.due("3: a rising one", x.lead(1, 2), Check.IMPOSSIBLE);
        Check.due("3: a rising one to waste", x.lead(1, 1), Check.IMPOSSIBLE);
        Check.due("3: a rising one, invalid", x.lead(1, 0), Check.INVALID);
        Check.due("3: no change", x.count(11), 3);
        Check.due("3: first", x.lead(0, 2), 0);
        Check.due("3: led to 2", x.clockOf(0, 8), 2);
        Check.due("3: on to another", x.lead(0, 1), 2);
        Check.due("3: to waste", x.lead(0, 0), 1);
        Check.due("3: led to none", x.clockOf(0, 8), Check.MISSING);
        Check.due("3: a siphon to none", x.lead(2, 2), 2);
        x.lead(0, 1);
        x.pour(0, 1);
        // 10 + 10 * 200 / 1000 go on, of which clock 1 drips 10 in the same tick.
        Check.due("3: drips", x.ticks(1), 22);
        Check.due("3: water led on", x.clockOf(1, 1), 2);
        Check.due("3: led water isn't poured", x.clockOf(1, 9), 0);
        Check.due("3: nothing wasted", x.water(3), 0);
        x.lead(0, 0);
        x.ticks(1);
        Check.due("3: wasted", x.water(3), 11);
    }

    private static void pour() {
        LeakingClocks x = new LeakingClocks();
        x.clock(0, 1, 100);
        Check.due("4: no such clock", x.pour(1, 0), Check.INVALID);
        Check.due("4: clock below 0", x.pour(-1, 0), Check.INVALID);
        Check.due("4: jug below", x.pour(0, -1), Check.INVALID);
        Check.due("4: jug above", x.pour(0, 3), Check.INVALID);
        int[] jugs = {50, 200, 700};
        int together = 0;
        for (int jug = 0; jug < 3; jug++) {
            together += jugs[jug];
            Check.due("4: jug " + jug, x.pour(0, jug), 0);
            Check.due("4: in the vessel", x.clockOf(0, 1), together);
            Check.due("4: cistern", x.water(0), 20000 - together);
        }
        Check.due("4: jugs poured", x.count(9), 3);
    }

    private static void pourRunsOver() {
        LeakingClocks x = new LeakingClocks();
        x.set(0, 500);
        x.clock(0, 60, 100);
        Check.due("4: runs over", x.pour(0, 2), 200);
        Check.due("4: on the floor", x.water(4), 200);
        Check.due("4: full", x.clockOf(0, 1), 500);
        Check.due("4: into a full one", x.pour(0, 0), Check.IMPOSSIBLE);
        Check.due("4: not counted", x.count(9), 1);
        for (int k = 0; k < 27; k++) {
            x.ticks(40);
            Check.due("4: again", x.pour(0, 2), 200);
        }
        x.ticks(40);
        // 28 jugs of 700 are 19600.
        Check.due("4: cistern", x.water(0), 400);
        Check.due("4: cistern has less", x.pour(0, 2), Check.IMPOSSIBLE);
        Check.due("4: a smaller jug", x.pour(0, 1), 0);
        Check.due("4: all of it", x.pour(0, 1), 0);
        Check.due("4: empty cistern", x.water(0), 0);
        Check.due("4: no more", x.pour(0, 0), Check.IMPOSSIBLE);
        Check.due("4: poured so far", x.water(6), 20000);
    }

    private static void wax() {
        LeakingClocks x = new LeakingClocks();
        x.clock(0, 60, 100);
        Check.due("5: no such clock", x.wax(1, 1), Check.INVALID);
        Check.due("5: wax 0", x.wax(0, 0), Check.INVALID);
        Check.due("5: wax 60", x.wax(0, 60), Check.INVALID);
        Check.due("5: some", x.wax(0, 20), 40);
        Check.due("5: below 1", x.wax(0, 40), Check.IMPOSSIBLE);
        Check.due("5: stays", x.clockOf(0, 3), 40);
        Check.due("5: down to 1", x.wax(0, 39), 1);
        Check.due("5: no more", x.wax(0, 1), Check.IMPOSSIBLE);
        x.clock(0, 60, 100);
        Check.due("5: most wax", x.wax(1, 59), 1);
        Check.due("5: not wider so far", x.clockOf(1, 11), 0);
    }

    private static void pitch() {
        LeakingClocks x = new LeakingClocks();
        x.clock(1, 10, 10);
        x.pour(0, 1);
        Check.due("6: no such clock", x.pitch(1, 5), Check.INVALID);
        Check.due("6: pitch 0", x.pitch(0, 0), Check.INVALID);
        Check.due("6: pitch 501", x.pitch(0, 501), Check.INVALID);
        x.ticks(10);
        Check.due("6: hour ahead", x.hour(0, 0), 10000 + x.clockOf(0, 2) / 10);
        Check.due("6: previous", x.pitch(0, 500), 10);
        Check.due("6: is trued", x.hour(0, 0), 10000);
        Check.due("6: counted as trued", x.clockOf(0, 10), 1);
        Check.due("6: counted of all", x.count(6), 1);
        Check.due("6: its pitch", x.clockOf(0, 4), 500);
        Check.due("6: least", x.pitch(0, 1), 500);
        int low = x.clockOf(0, 2);
        x.ticks(1);
        Check.due("6: tells by the new pitch", x.hour(0, 0), 10000 + x.clockOf(0, 2) - low);
    }

    private static void trueUp() {
        LeakingClocks x = new LeakingClocks();
        x.clock(0, 10, 100);
        Check.due("7: no such clock", x.trueUp(1), Check.INVALID);
        Check.due("7: below 0", x.trueUp(-1), Check.INVALID);
        Check.due("7: without error", x.trueUp(0), 10000);
        x.pour(0, 2);
        Check.due("7: error", x.trueUp(0), 9993);
        Check.due("7: no error now", x.hour(0, 1), 10000);
        Check.due("7: counted", x.clockOf(0, 10), 2);
        x.set(3, 1);
        x.ticks(10);
        // 158 drops dripped, so that it tells 1 at the true hour 10.
        Check.due("7: its error later", x.trueUp(0), 9991);
        Check.due("7: the true hour now", x.hour(0, 0), 10010);
    }

    private static void ticksDrip() {
        LeakingClocks x = new LeakingClocks();
        Check.due("8: without clocks", x.ticks(1), 0);
        x.clock(0, 7, 100);
        x.clock(1, 60, 100);
        x.pour(0, 2);
        x.pour(1, 0);
        // 7 + 7 * 700 / 1000 is 11; the other one has less than 60.
        Check.due("8: both", x.ticks(1), 61);
        Check.due("8: upper", x.clockOf(0, 1), 689);
        Check.due("8: all that is in it", x.clockOf(1, 1), 0);
        Check.due("8: lower", x.clockOf(1, 2), 50);
        Check.due("8: to waste", x.water(3), 11);
        Check.due("8: now", x.count(0), 2);
    }

    private static void ticksLimits() {
        LeakingClocks x = new LeakingClocks();
        Check.due("8: none", x.ticks(0), Check.INVALID);
        Check.due("8: below 0", x.ticks(-5), Check.INVALID);
        Check.due("8: too many", x.ticks(1000), Check.INVALID);
        for (int k = 0; k < 100; k++) {
            Check.due("8: many", x.ticks(999), 0);
        }
        Check.due("8: above the last", x.ticks(100), Check.LIMIT);
        Check.due("8: invalid ahead of limit", x.ticks(1000), Check.INVALID);
        Check.due("8: to the last", x.ticks(99), 0);
        Check.due("8: now", x.count(0), 99999);
        Check.due("8: no more", x.ticks(1), Check.LIMIT);
        Check.due("8: noons", x.count(4), 416);
        Check.due("8: ticks until noon", x.count(8), 81);
    }

    private static void ticksWearHoles() {
        LeakingClocks x = new LeakingClocks();
        x.clock(1, 20, 100);
        x.set(2, 50);
        x.pour(0, 1);
        // 24 and 23 go through, and with 23 more it is 70.
        Check.due("8: 24 drops", x.ticks(1), 24);
        Check.due("8: 23 drops", x.ticks(1), 23);
        Check.due("8: not wider yet", x.clockOf(0, 3), 20);
        Check.due("8: 23 again", x.ticks(1), 23);
        Check.due("8: wider", x.clockOf(0, 3), 21);
        Check.due("8: by 1", x.clockOf(0, 11), 1);
        // 20 were left over: 23 and 23 more are 66.
        x.ticks(1);
        Check.due("8: not wider", x.clockOf(0, 3), 21);
        x.ticks(1);
        Check.due("8: what is left over counts on", x.clockOf(0, 3), 22);
        x.wax(0, 10);
        Check.due("8: wax does not take back", x.clockOf(0, 11), 2);

        LeakingClocks y = new LeakingClocks();
        y.clock(1, 60, 100);
        y.wax(0, 10);
        y.pour(0, 1);
        y.ticks(40);
        Check.due("8: empty", y.clockOf(0, 1), 0);
        Check.due("8: 200 went through", y.clockOf(0, 3), 50);
        y.set(2, 60);
        Check.due("8: not by the setting alone", y.clockOf(0, 3), 50);
        Check.due("8: nothing drips", y.ticks(1), 0);
        Check.due("8: wider by the new setting", y.clockOf(0, 3), 53);
        y.set(2, 50);
        y.ticks(1);
        Check.due("8: 20 are left over", y.clockOf(0, 3), 53);
    }

    private static void ticksWearAtMostWidth() {
        LeakingClocks x = new LeakingClocks();
        x.clock(1, 60, 100);
        x.set(2, 50);
        x.pour(0, 1);
        x.ticks(4);
        Check.due("8: not above 60", x.clockOf(0, 3), 60);
        Check.due("8: not wider so far", x.clockOf(0, 11), 0);
        x.wax(0, 1);
        x.ticks(10);
        Check.due("8: used up at 60", x.clockOf(0, 3), 59);

        LeakingClocks y = new LeakingClocks();
        y.clock(1, 59, 100);
        y.pour(0, 2);
        y.set(2, 5000);
        y.ticks(30);
        y.set(2, 50);
        y.ticks(1);
        Check.due("8: 14 times, yet up to 60", y.clockOf(0, 3), 60);
        Check.due("8: wider by 1", y.clockOf(0, 11), 1);
        y.wax(0, 30);
        y.ticks(1);
        Check.due("8: all were used up", y.clockOf(0, 3), 30);
    }

    private static void ticksStroke() {
        LeakingClocks x = new LeakingClocks();
        x.clock(2, 60, 10);
        x.clock(1, 1, 10);
        x.lead(0, 1);
        x.set(1, 100);
        x.pour(0, 2);
        // 60 + 60 * 700 / 1000 is 102, and then 60 + 60 * 598 / 1000 is 95.
        Check.due("8: stroke, and on in the same tick", x.ticks(1), 103);
        Check.due("8: strokes", x.clockOf(0, 7), 1);
        Check.due("8: lower", x.clockOf(0, 2), 0);
        Check.due("8: led on", x.clockOf(1, 1), 101);
        Check.due("8: let go", x.water(9), 102);
        Check.due("8: the stroke counts setting 1", x.hour(0, 0), 10010);
        x.ticks(1);
        Check.due("8: no stroke", x.clockOf(0, 7), 1);
        Check.due("8: in the lower one", x.clockOf(0, 2), 95);
        Check.due("8: counts the water too", x.hour(0, 0), 10019);
        x.set(1, 95);
        Check.due("8: counts as it was with each", x.hour(0, 0), 10019);
        x.wax(0, 59);
        x.set(1, 400);
        x.ticks(1);
        Check.due("8: less than setting 1", x.clockOf(0, 7), 1);
        LeakingClocks y = new LeakingClocks();
        y.clock(2, 60, 10);
        y.pour(0, 0);
        y.ticks(1);
        y.set(1, 50);
        Check.due("8: nothing drips", y.ticks(1), 0);
        Check.due("8: strokes also then", y.clockOf(0, 7), 1);
        Check.due("8: to waste", y.water(3), 50);
        Check.due("8: counted", y.count(7), 1);
    }

    private static void ticksRunOver() {
        LeakingClocks x = new LeakingClocks();
        x.set(0, 500);
        x.clock(0, 60, 100);
        x.clock(0, 1, 100);
        x.clock(1, 60, 100);
        x.lead(0, 1);
        x.pour(0, 2);
        x.pour(1, 2);
        // 90 are led into a vessel that is full, which drips 1 then.
        Check.due("8: drips", x.ticks(1), 91);
        Check.due("8: runs over", x.water(4), 490);
        Check.due("8: upper", x.clockOf(1, 1), 499);
        x.pour(2, 2);
        x.ticks(20);
        x.pour(2, 1);
        x.ticks(20);
        Check.due("8: a rising one's lower vessel is full", x.clockOf(2, 2), 500);
        Check.due("8: all water", x.water(5), 20000);
        Check.due("8: two accounts", x.water(7), x.water(8));
    }

    private static void ticksAtNoon() {
        LeakingClocks x = new LeakingClocks();
        x.clock(0, 1, 10);
        x.clock(1, 1, 10);
        x.set(3, 2);
        x.set(4, 11);
        x.set(5, 1);
        x.ticks(12);
        x.clock(1, 1, 10);
        Check.due("8: no noon yet", x.count(4), 0);
        x.ticks(11);
        Check.due("8: still none", x.count(4), 0);
        x.ticks(1);
        Check.due("8: noon", x.count(4), 1);
        Check.due("8: off by 12", x.noon(0, 0), 9988);
        Check.due("8: off by 6", x.noon(0, 2), 9994);
        Check.due("8: off at noons", x.count(5), 2);
        Check.due("8: trued", x.hour(0, 1), 10000);
        Check.due("8: trued by itself", x.clockOf(0, 10), 1);
        Check.due("8: borne", x.hour(2, 1), 9994);
        Check.due("8: not trued", x.clockOf(2, 10), 0);
        x.set(4, 12);
        x.ticks(24);
        Check.due("8: an error of setting 4 is borne", x.clockOf(0, 10), 1);
        Check.due("8: one of 18 is not", x.clockOf(2, 10), 1);
        x.set(5, 0);
        x.ticks(24);
        Check.due("8: no truing without setting 5", x.count(6), 3);
        Check.due("8: yet counted as off", x.count(5), 5);
    }

    private static void set() {
        LeakingClocks x = new LeakingClocks();
        int[] least = {500, 20, 50, 1, 0, 0};
        int[] most = {5000, 900, 5000, 30, 12, 1};
        int[] first = {2000, 240, 400, 20, 1, 0};
        for (int what = 0; what < 6; what++) {
            Check.due("9: below", x.set(what, least[what] - 1), Check.INVALID);
            Check.due("9: above", x.set(what, most[what] + 1), Check.INVALID);
            Check.due("9: stays", x.count(20 + what), first[what]);
            Check.due("9: least", x.set(what, least[what]), first[what]);
            Check.due("9: most", x.set(what, most[what]), least[what]);
            Check.due("9: now", x.count(20 + what), most[what]);
        }
        Check.due("9: no such", x.set(6, 1), Check.INVALID);
        Check.due("9: below 0", x.set(-1, 1), Check.INVALID);
    }

    private static void setKeepsWhatVesselsHold() {
        LeakingClocks x = new LeakingClocks();
        x.clock(1, 60, 100);
        x.pour(0, 2);
        x.pour(0, 2);
        x.ticks(8);
        int low = x.clockOf(0, 2);
        x.pour(0, 2);
        int up = x.clockOf(0, 1);
        x.set(0, 500);
        Check.due("9: upper keeps", x.clockOf(0, 1), up);
        Check.due("9: lower keeps", x.clockOf(0, 2), low);
        Check.due("9: nothing runs over", x.water(4), 0);
        Check.due("9: no more is poured", x.pour(0, 0), Check.IMPOSSIBLE);
        int drops = x.ticks(1);
        Check.due("9: no more into the lower one", x.clockOf(0, 2), low);
        Check.due("9: all onto the floor", x.water(4), drops);
    }
}
