/** The boundary cases of the section 'A tick'; each test is for the words of the document that stand above it. */
public final class EdgesOfTickTest {
    public static void main(String[] args) {
        byTheirNumbers();
        widthAndAThousandth();
        allThatIsInIt();
        widerByEachSetting2();
        widerSeveralTimes();
        widerAtTheEndOfTheTick();
        widerAlsoIfNothingDripped();
        leftOverCountsOn();
        widerUpTo60();
        usedUpAt60();
        leftOverAt60();
        countByTheNewSetting();
        waxLeavesWhatIsLeftOver();
        strokeAtSetting1();
        strokeByDropsOfSeveralTicks();
        strokeAlsoIfNothingDripped();
        oneStrokeOfAllTheWater();
        strokeDripsOnInTheSameTick();
        oneTickMore();
        noonByTheHour();
        noonOfAnyHourLength();
        noonBehindAChangeOfHours();
        noonsOfOneCall();
        errorOfThatTick();
        truedAboveSetting4();
        bookAheadOfTruing();
        notTruedWithoutSetting5();
        Check.end();
    }

    /** Made of settings by which no hole becomes wider and no siphon empties itself, if not otherwise asked. */
    private static LeakingClocks calm() {
        LeakingClocks x = new LeakingClocks();
        x.set(1, 900);
        x.set(2, 5000);
        return x;
    }

    /** "In a tick each clock drips, by their numbers" - so that water goes on to the last one in the same tick. */
    private static void byTheirNumbers() {
        LeakingClocks x = calm();
        for (int k = 0; k < 5; k++) {
            x.clock(0, k == 0 ? 10 : 60, 1);
        }
        for (int k = 0; k < 4; k++) {
            x.lead(k, k + 1);
        }
        x.pour(0, 0);
        Check.due("5 times 10", x.ticks(1), 50);
        Check.due("wasted by the last one", x.water(3), 10);
        Check.due("only the first one has some", x.count(3), 30);
    }

    /** "its width and its width * the water in it / 1000, together" */
    private static void widthAndAThousandth() {
        LeakingClocks x = calm();
        x.clock(0, 1, 1);
        x.clock(1, 1, 1);
        x.lead(0, 1);
        x.pour(0, 0);
        for (int jug : new int[] {2, 1, 0, 0}) {
            x.pour(1, jug);
        }
        Check.due("of 1000", x.clockOf(1, 6), 2);
        x.ticks(1);
        Check.due("1001 less 2", x.clockOf(1, 1), 999);
        Check.due("of 999", x.clockOf(1, 6), 1);
        x.lead(0, 0);
        x.ticks(1);
        Check.due("999 less 1", x.clockOf(1, 1), 998);

        LeakingClocks y = calm();
        y.set(0, 5000);
        y.clock(0, 60, 1);
        for (int k = 0; k < 7; k++) {
            y.pour(0, 2);
        }
        Check.due("60 of 4900", y.clockOf(0, 6), 354);
        y.pour(0, 1);
        Check.due("60 of 5000", y.clockOf(0, 6), 360);
        Check.due("drips so", y.ticks(1), 360);
    }

    /** "or all that is in it, if that is less" - of 50 drops. */
    private static void allThatIsInIt() {
        int[] widths = {46, 47, 48, 49, 60};
        int[] drops = {48, 49, 50, 50, 50};
        LeakingClocks x = calm();
        for (int k = 0; k < 5; k++) {
            x.clock(0, widths[k], 1);
            Check.due("of nothing", x.clockOf(k, 6), 0);
            x.pour(k, 0);
            Check.due("would drip by " + widths[k], x.clockOf(k, 6), drops[k]);
        }
        Check.due("drip together", x.ticks(1), 247);
        for (int k = 0; k < 5; k++) {
            Check.due("left by " + widths[k], x.clockOf(k, 1), 50 - drops[k]);
            Check.due("through by " + widths[k], x.clockOf(k, 5), drops[k]);
        }
        Check.due("empty ones", x.count(3), 28);
        Check.due("the rest", x.ticks(1), 3);
        Check.due("nothing", x.ticks(1), 0);
    }

    /** "with each setting 2 of them, together, the hole becomes wider by 1" - of 49, 50 and 51 drops. */
    private static void widerByEachSetting2() {
        int[] settings = {50, 51, 50, 51};
        int[] widths = {47, 48, 48, 47};
        int[] wider = {0, 0, 1, 0};
        for (int k = 0; k < 4; k++) {
            LeakingClocks x = new LeakingClocks();
            x.set(2, settings[k]);
            x.clock(0, widths[k], 1);
            x.pour(0, 0);
            x.ticks(1);
            Check.due("width, case " + k, x.clockOf(0, 3), widths[k] + wider[k]);
            Check.due("wider by, case " + k, x.clockOf(0, 11), wider[k]);
        }
        LeakingClocks y = new LeakingClocks();
        y.set(2, 5000);
        y.clock(1, 1, 1);
        y.set(0, 5000);
        for (int k = 0; k < 7; k++) {
            y.pour(0, 2);
        }
        y.pour(0, 0);
        y.ticks(999);
        y.ticks(999);
        y.ticks(999);
        Check.due("4950 through", y.clockOf(0, 5), 4950);
        y.wax(0, 1);
        y.pour(0, 0);
        y.ticks(49);
        Check.due("4999 through", y.clockOf(0, 3), 1);
        y.ticks(1);
        Check.due("5000 through", y.clockOf(0, 3), 2);
    }

    /** "with each setting 2 of them" - twice in a tick with 100 of 50, once with 98. */
    private static void widerSeveralTimes() {
        int[] widths = {50, 49};
        int[] due = {52, 50};
        for (int k = 0; k < 2; k++) {
            LeakingClocks x = new LeakingClocks();
            x.set(2, 50);
            x.clock(0, widths[k], 1);
            for (int jug : new int[] {2, 1, 0, 0}) {
                x.pour(0, jug);
            }
            Check.due("drips", x.ticks(1), 2 * widths[k]);
            Check.due("width", x.clockOf(0, 3), due[k]);
            Check.due("wider by", x.clockOf(0, 11), due[k] - widths[k]);
        }
    }

    /** "at the end of each tick" - each tick drips by the width that it begins with. */
    private static void widerAtTheEndOfTheTick() {
        LeakingClocks x = new LeakingClocks();
        x.set(2, 50);
        x.clock(0, 48, 1);
        x.pour(0, 1);
        int[] drops = {57, 56, 54, 33};
        // 7, 13, 17 and 0 are left over.
        int[] widths = {49, 50, 51, 52};
        for (int k = 0; k < 4; k++) {
            Check.due("drips in tick " + k, x.ticks(1), drops[k]);
            Check.due("width behind tick " + k, x.clockOf(0, 3), widths[k]);
        }
        LeakingClocks y = new LeakingClocks();
        y.set(2, 50);
        y.clock(0, 48, 1);
        y.pour(0, 1);
        Check.due("all four", y.ticks(4), 200);
        Check.due("width", y.clockOf(0, 3), 52);
    }

    /** "also if nothing dripped in it" */
    private static void widerAlsoIfNothingDripped() {
        for (int each : new int[] {50, 51}) {
            LeakingClocks x = new LeakingClocks();
            x.clock(0, 10, 1);
            x.pour(0, 0);
            x.ticks(9);
            x.set(2, each);
            Check.due("not by the setting alone", x.clockOf(0, 3), 10);
            Check.due("nothing drips", x.ticks(1), 0);
            Check.due("width with 50 of " + each, x.clockOf(0, 3), each == 50 ? 11 : 10);
        }
    }

    /** "what is left over counts on" - 49 and 1 of 50. */
    private static void leftOverCountsOn() {
        LeakingClocks x = new LeakingClocks();
        x.set(2, 50);
        x.clock(0, 47, 1);
        x.pour(0, 0);
        Check.due("49", x.ticks(1), 49);
        Check.due("not wider", x.clockOf(0, 3), 47);
        Check.due("1", x.ticks(1), 1);
        Check.due("wider", x.clockOf(0, 3), 48);
        x.ticks(1);
        Check.due("none is left over now", x.clockOf(0, 3), 48);
    }

    /** "up to 60" */
    private static void widerUpTo60() {
        int[] widths = {58, 59, 60};
        int[] wider = {1, 1, 0};
        for (int k = 0; k < 3; k++) {
            LeakingClocks x = new LeakingClocks();
            x.set(2, 50);
            x.clock(1, widths[k], 1);
            x.pour(0, 0);
            x.ticks(1);
            Check.due("width of " + widths[k], x.clockOf(0, 3), widths[k] + wider[k]);
            Check.due("wider by, of " + widths[k], x.clockOf(0, 11), wider[k]);
        }
        LeakingClocks y = new LeakingClocks();
        y.set(2, 50);
        y.clock(1, 58, 1);
        for (int jug : new int[] {2, 1, 0, 0}) {
            y.pour(0, jug);
        }
        Check.due("twice 50, and 16", y.ticks(1), 116);
        Check.due("60", y.clockOf(0, 3), 60);
        y.ticks(9);
        Check.due("still 60", y.clockOf(0, 3), 60);
        Check.due("by 2", y.clockOf(0, 11), 2);
    }

    /** "at 60, too, each setting 2 of them are used up" */
    private static void usedUpAt60() {
        LeakingClocks x = new LeakingClocks();
        x.set(2, 50);
        x.clock(1, 60, 1);
        x.pour(0, 0);
        x.ticks(1);
        x.wax(0, 1);
        x.ticks(1);
        Check.due("50 were used up", x.clockOf(0, 3), 59);
        x.pour(0, 0);
        x.ticks(1);
        Check.due("50 more", x.clockOf(0, 3), 60);
        // More at once than 59 can become wider by.
        LeakingClocks y = new LeakingClocks();
        y.set(2, 50);
        y.clock(1, 59, 1);
        for (int jug : new int[] {2, 1, 0, 0}) {
            y.pour(0, jug);
        }
        y.ticks(1);
        Check.due("118 drops, once", y.clockOf(0, 3), 60);
        y.ticks(99);
        Check.due("all through", y.clockOf(0, 5), 1000);
        y.wax(0, 10);
        y.ticks(1);
        Check.due("1000 were used up", y.clockOf(0, 3), 50);
        Check.due("by 1", y.clockOf(0, 11), 1);
    }

    /** "at 60, too, each setting 2 of them are used up" - and no more: 49 that are left over count on. */
    private static void leftOverAt60() {
        LeakingClocks x = new LeakingClocks();
        x.set(2, 50);
        x.clock(0, 47, 1);
        x.clock(1, 60, 1);
        x.lead(0, 1);
        x.pour(0, 0);
        x.ticks(1);
        Check.due("49 through", x.clockOf(1, 5), 49);
        x.wax(1, 1);
        x.ticks(1);
        Check.due("and 1", x.clockOf(1, 3), 60);
        Check.due("by 1", x.clockOf(1, 11), 1);
        LeakingClocks y = new LeakingClocks();
        y.set(2, 50);
        y.clock(0, 47, 1);
        y.clock(1, 60, 1);
        y.lead(0, 1);
        y.pour(0, 0);
        y.ticks(2);
        y.wax(1, 1);
        y.ticks(1);
        Check.due("49 and 1 were used up at 60", y.clockOf(1, 3), 59);
    }

    /** "drops that went through ahead of a change of setting 2 count by the new one" */
    private static void countByTheNewSetting() {
        LeakingClocks x = new LeakingClocks();
        x.clock(1, 20, 1);
        x.pour(0, 1);
        x.ticks(20);
        Check.due("200 of 400", x.clockOf(0, 3), 20);
        x.set(2, 50);
        x.set(2, 200);
        Check.due("not yet", x.clockOf(0, 3), 20);
        x.ticks(1);
        Check.due("200 of 200, at the end of the tick", x.clockOf(0, 3), 21);
        x.set(2, 50);
        x.ticks(1);
        Check.due("used up", x.clockOf(0, 3), 21);
        LeakingClocks y = new LeakingClocks();
        y.clock(1, 20, 1);
        y.pour(0, 1);
        y.ticks(20);
        y.set(2, 67);
        y.ticks(1);
        Check.due("twice 67, and 66", y.clockOf(0, 3), 22);
        y.set(2, 66);
        y.ticks(1);
        Check.due("66 of 66", y.clockOf(0, 3), 23);
    }

    /** "what is left over counts on" - also if wax came between. */
    private static void waxLeavesWhatIsLeftOver() {
        LeakingClocks x = new LeakingClocks();
        x.set(2, 50);
        x.clock(0, 47, 1);
        x.pour(0, 0);
        x.ticks(1);
        x.wax(0, 46);
        x.ticks(1);
        Check.due("49 and 1", x.clockOf(0, 3), 2);
    }

    /** "If the water in the lower vessel of a siphon is setting 1 then, or more" */
    private static void strokeAtSetting1() {
        int[] settings = {49, 50, 51};
        int[] strokes = {1, 1, 0};
        for (int k = 0; k < 3; k++) {
            LeakingClocks x = new LeakingClocks();
            x.set(1, settings[k]);
            x.clock(2, 60, 1);
            x.pour(0, 0);
            x.ticks(1);
            Check.due("strokes with 50 of " + settings[k], x.clockOf(0, 7), strokes[k]);
            Check.due("lower with 50 of " + settings[k], x.clockOf(0, 2), strokes[k] == 1 ? 0 : 50);
            Check.due("let go with 50 of " + settings[k], x.water(9), strokes[k] == 1 ? 50 : 0);
            Check.due("wasted with 50 of " + settings[k], x.water(3), strokes[k] == 1 ? 50 : 0);
        }
    }

    /** "If the water in the lower vessel of a siphon is setting 1 then" - 49 and 1 of 50. */
    private static void strokeByDropsOfSeveralTicks() {
        LeakingClocks x = new LeakingClocks();
        x.set(1, 50);
        x.clock(2, 47, 1);
        x.pour(0, 0);
        x.ticks(1);
        Check.due("49", x.clockOf(0, 7), 0);
        x.ticks(1);
        Check.due("and 1", x.clockOf(0, 7), 1);
        Check.due("50 let go", x.water(9), 50);
    }

    /** "(also if nothing dripped)" */
    private static void strokeAlsoIfNothingDripped() {
        for (int full : new int[] {50, 51}) {
            LeakingClocks x = new LeakingClocks();
            x.clock(2, 60, 1);
            x.pour(0, 0);
            x.ticks(1);
            x.set(1, full);
            Check.due("not by the setting alone", x.clockOf(0, 2), 50);
            Check.due("no stroke yet", x.count(7), 0);
            Check.due("nothing drips", x.ticks(1), 0);
            Check.due("strokes with 50 of " + full, x.clockOf(0, 7), full == 50 ? 1 : 0);
            Check.due("lower with 50 of " + full, x.clockOf(0, 2), full == 50 ? 0 : 50);
        }
    }

    /** "it empties itself: all the water in it goes on, and that is a stroke" - one, of however much water. */
    private static void oneStrokeOfAllTheWater() {
        LeakingClocks x = new LeakingClocks();
        x.set(1, 20);
        x.clock(2, 60, 1);
        x.clock(0, 1, 1);
        x.lead(0, 1);
        x.pour(0, 2);
        Check.due("102, and 1 of the other one", x.ticks(1), 103);
        Check.due("one stroke", x.clockOf(0, 7), 1);
        Check.due("strokes together", x.count(7), 1);
        Check.due("all of it", x.clockOf(0, 2), 0);
        Check.due("goes on", x.clockOf(1, 1), 101);
        Check.due("counts as setting 1", x.hour(0, 0), 10020);
        Check.due("none on the floor", x.water(4), 0);
    }

    /** "In a tick each clock drips, by their numbers" - what a stroke let go drips on from a later clock. */
    private static void strokeDripsOnInTheSameTick() {
        LeakingClocks x = new LeakingClocks();
        x.clock(2, 60, 1);
        x.clock(2, 60, 1);
        x.clock(1, 60, 1);
        x.lead(0, 1);
        x.lead(1, 2);
        x.pour(0, 0);
        x.ticks(1);
        x.set(1, 50);
        Check.due("of the two later ones", x.ticks(1), 100);
        Check.due("strokes of both", x.count(7), 2);
        Check.due("in the last one", x.clockOf(2, 2), 50);
    }

    /** "Then now is 1 more. The true hour is now / setting 3." */
    private static void oneTickMore() {
        LeakingClocks x = new LeakingClocks();
        x.clock(0, 1, 1);
        Check.due("at first", x.count(0), 0);
        Check.due("true hour", x.hour(0, 2), 0);
        x.ticks(1);
        Check.due("one", x.count(0), 1);
        x.ticks(18);
        Check.due("the last tick of hour 0", x.hour(0, 2), 0);
        x.ticks(1);
        Check.due("the first tick of hour 1", x.hour(0, 2), 1);
        x.ticks(19);
        Check.due("the last tick of hour 1", x.hour(0, 2), 1);
        x.ticks(1);
        Check.due("the first tick of hour 2", x.hour(0, 2), 2);
        x.set(3, 1);
        Check.due("hours of 1 tick", x.hour(0, 2), 40);
        x.set(3, 30);
        Check.due("hours of 30 ticks", x.hour(0, 2), 1);
    }

    /** "If that can be divided by 12, and now by setting 3, it is noon" - neither in the hour of noon, nor in another. */
    private static void noonByTheHour() {
        LeakingClocks x = new LeakingClocks();
        Check.due("none at first", x.count(4), 0);
        x.ticks(20);
        Check.due("none at hour 1", x.count(4), 0);
        x.ticks(219);
        Check.due("none at the last tick of hour 11", x.count(4), 0);
        x.ticks(1);
        Check.due("noon", x.count(4), 1);
        x.ticks(1);
        Check.due("none at the next tick of hour 12", x.count(4), 1);
        x.ticks(18);
        Check.due("none at the last tick of hour 12", x.count(4), 1);
        x.ticks(1);
        Check.due("none at hour 13", x.count(4), 1);
        x.ticks(219);
        Check.due("none at the last tick of hour 23", x.count(4), 1);
        x.ticks(1);
        Check.due("noon again", x.count(4), 2);
    }

    /** "If that can be divided by 12, and now by setting 3, it is noon" - with hours of 1 and of 30 ticks. */
    private static void noonOfAnyHourLength() {
        for (int ticks : new int[] {1, 2, 30}) {
            LeakingClocks x = new LeakingClocks();
            x.set(3, ticks);
            x.ticks(12 * ticks - 1);
            Check.due("the tick ahead, " + ticks, x.count(4), 0);
            x.ticks(1);
            Check.due("noon, " + ticks, x.count(4), 1);
            x.ticks(12 * ticks - 1);
            Check.due("the tick ahead of the next, " + ticks, x.count(4), 1);
            x.ticks(1);
            Check.due("the next, " + ticks, x.count(4), 2);
        }
    }

    /** "If that can be divided by 12, and now by setting 3, it is noon" - as each tick ends, not as hours change. */
    private static void noonBehindAChangeOfHours() {
        LeakingClocks x = new LeakingClocks();
        x.ticks(24);
        x.set(3, 2);
        Check.due("no noon by a change", x.count(4), 0);
        x.set(3, 1);
        Check.due("nor by another", x.count(4), 0);
        x.ticks(11);
        Check.due("none yet", x.count(4), 0);
        x.ticks(1);
        Check.due("36 is noon", x.count(4), 1);
        x.set(3, 3);
        Check.due("36 is noon but once", x.count(4), 1);
        x.ticks(35);
        Check.due("none to 71", x.count(4), 1);
        x.ticks(1);
        Check.due("72 is noon", x.count(4), 2);
    }

    /** "it is noon" - also amid the ticks of one call. */
    private static void noonsOfOneCall() {
        LeakingClocks x = new LeakingClocks();
        x.set(3, 1);
        x.clock(0, 1, 1);
        x.ticks(47);
        Check.due("three noons", x.count(4), 3);
        Check.due("the latest", x.noon(0, 0), 9964);
        Check.due("the first", x.noon(2, 0), 9988);
        x.ticks(999);
        Check.due("87 noons", x.count(4), 87);
    }

    /** "the error of each clock, the hour that it tells less the true hour" - with the drops of that very tick. */
    private static void errorOfThatTick() {
        LeakingClocks x = new LeakingClocks();
        x.set(3, 1);
        x.clock(1, 60, 1);
        x.clock(0, 60, 1);
        x.ticks(11);
        x.pour(0, 0);
        x.pour(1, 0);
        x.ticks(1);
        Check.due("50 drops more", x.noon(0, 0), 10038);
        Check.due("dripped empty", x.noon(0, 1), 9988);
    }

    /** Clocks with errors of 12, 13, -12 and -13 at the noon that comes in the twelfth tick. */
    private static LeakingClocks aboutTwelve() {
        LeakingClocks x = new LeakingClocks();
        x.set(3, 1);
        x.set(4, 12);
        x.clock(1, 60, 29);
        x.clock(1, 60, 28);
        x.clock(0, 1, 500);
        x.clock(0, 1, 500);
        x.pour(0, 2);
        x.pour(1, 2);
        x.pour(3, 0);
        return x;
    }

    /** "if setting 5 is 1, each one whose error is above setting 4 up or down is trued" */
    private static void truedAboveSetting4() {
        LeakingClocks x = aboutTwelve();
        x.set(5, 1);
        x.ticks(11);
        Check.due("none ahead of noon", x.count(6), 0);
        x.ticks(1);
        int[] errors = {12, 13, -12, -13};
        for (int k = 0; k < 4; k++) {
            boolean off = k % 2 == 1;
            Check.due("error in the book", x.noon(0, k), 10000 + errors[k]);
            Check.due("error then", x.hour(k, 1), off ? 10000 : 10000 + errors[k]);
            Check.due("trued", x.clockOf(k, 10), off ? 1 : 0);
        }
        Check.due("trued together", x.count(6), 2);
        Check.due("off at noon", x.count(5), 2);
        LeakingClocks y = new LeakingClocks();
        y.set(3, 30);
        y.set(4, 0);
        y.set(5, 1);
        y.clock(1, 60, 4);
        y.clock(1, 60, 3);
        y.pour(0, 0);
        y.pour(1, 0);
        y.ticks(360);
        Check.due("an error of 0", y.noon(0, 0), 10000);
        Check.due("is borne by 0", y.clockOf(0, 10), 0);
        Check.due("an error of 4", y.noon(0, 1), 10004);
        Check.due("is not", y.clockOf(1, 10), 1);
    }

    /** "comes into the book; then .. is trued" - the error in the book is that ahead of truing. */
    private static void bookAheadOfTruing() {
        LeakingClocks x = new LeakingClocks();
        x.set(3, 1);
        x.set(4, 0);
        x.set(5, 1);
        x.clock(0, 1, 1);
        x.ticks(24);
        Check.due("12 hours since it was trued", x.noon(0, 0), 9988);
        Check.due("12 hours since it came", x.noon(1, 0), 9988);
        Check.due("trued twice", x.clockOf(0, 10), 2);
        Check.due("tells the true hour", x.hour(0, 0), 10024);
    }

    /** "if setting 5 is 1" */
    private static void notTruedWithoutSetting5() {
        LeakingClocks x = aboutTwelve();
        x.ticks(12);
        Check.due("none is trued", x.count(6), 0);
        Check.due("off at noon", x.count(5), 2);
        Check.due("off now", x.count(2), 10);
        x.set(5, 1);
        Check.due("nor by the setting", x.count(6), 0);
        x.ticks(11);
        Check.due("nor ahead of noon", x.count(6), 0);
        x.ticks(1);
        Check.due("errors of 0 and 1 are borne, the other two not", x.count(6), 2);
    }
}
