/** Promises 12 to 15: what there is. */
public final class FiguresTest {
    public static void main(String[] args) {
        clockOf();
        clockOfPouredAndTrued();
        clockOfHasNot();
        hour();
        hourBelowZero();
        water();
        noon();
        noonOfAFullBook();
        Check.end();
    }

    private static void clockOf() {
        LeakingClocks x = new LeakingClocks();
        Check.due("12: no clock", x.clockOf(0, 0), Check.INVALID);
        x.clock(2, 20, 60);
        x.clock(0, 3, 70);
        x.lead(0, 1);
        x.set(1, 60);
        x.set(2, 50);
        x.pour(0, 1);
        // 24, 23, 23 and 22 or 23: by 70 after three the hole is 21 wide and it drips 21 + 2.
        x.ticks(4);
        int[] due = {2, 107, 23, 21, 60, 93, 23, 1, 1, 200, 0, 1};
        for (int what = 0; what < due.length; what++) {
            Check.due("12: figure " + what, x.clockOf(0, what), due[what]);
        }
        Check.due("12: of the other one", x.clockOf(1, 5), 6);
        Check.due("12: upper of the other one", x.clockOf(1, 1), 64);
        Check.due("12: what below", x.clockOf(0, -1), Check.INVALID);
        Check.due("12: what above", x.clockOf(0, 12), Check.INVALID);
        Check.due("12: clock below", x.clockOf(-1, 0), Check.INVALID);
        Check.due("12: clock above", x.clockOf(2, 0), Check.INVALID);
    }

    private static void clockOfPouredAndTrued() {
        LeakingClocks x = new LeakingClocks();
        x.set(0, 500);
        x.clock(1, 60, 1);
        x.pour(0, 2);
        Check.due("12: those that ran over too", x.clockOf(0, 9), 700);
        Check.due("12: drips no more than width", x.clockOf(0, 6), 90);
        x.ticks(20);
        Check.due("12: drips none", x.clockOf(0, 6), 0);
        x.pour(0, 0);
        Check.due("12: drips all that is in it", x.clockOf(0, 6), 50);
        x.trueUp(0);
        x.pitch(0, 2);
        x.set(5, 1);
        x.set(4, 0);
        x.set(3, 1);
        x.ticks(4);
        Check.due("12: trued by itself, too", x.clockOf(0, 10), 3);
        x.ticks(12);
        Check.due("12: and again", x.clockOf(0, 10), 4);
    }

    private static void clockOfHasNot() {
        LeakingClocks x = new LeakingClocks();
        for (int kind = 0; kind < 3; kind++) {
            x.clock(kind, 1, 1);
        }
        Check.due("12: sinking, lower", x.clockOf(0, 2), Check.MISSING);
        Check.due("12: rising, lower", x.clockOf(1, 2), 0);
        Check.due("12: siphon, lower", x.clockOf(2, 2), 0);
        Check.due("12: sinking, strokes", x.clockOf(0, 7), Check.MISSING);
        Check.due("12: rising, strokes", x.clockOf(1, 7), Check.MISSING);
        Check.due("12: siphon, strokes", x.clockOf(2, 7), 0);
        for (int k = 0; k < 3; k++) {
            Check.due("12: led to none", x.clockOf(k, 8), Check.MISSING);
        }
        x.lead(0, 2);
        Check.due("12: led to 2", x.clockOf(0, 8), 2);
    }

    private static void hour() {
        LeakingClocks x = new LeakingClocks();
        Check.due("13: no clock", x.hour(0, 2), Check.INVALID);
        x.clock(1, 10, 7);
        Check.due("13: below", x.hour(0, -1), Check.INVALID);
        Check.due("13: above", x.hour(0, 3), Check.INVALID);
        Check.due("13: clock above", x.hour(1, 0), Check.INVALID);
        Check.due("13: clock below", x.hour(-1, 0), Check.INVALID);
        x.pour(0, 0);
        x.ticks(39);
        Check.due("13: true hour", x.hour(0, 2), 1);
        Check.due("13: hour", x.hour(0, 0), 10007);
        Check.due("13: error", x.hour(0, 1), 10006);
        x.ticks(1);
        Check.due("13: next true hour", x.hour(0, 2), 2);
        x.trueUp(0);
        Check.due("13: trued", x.hour(0, 0), 10002);
        x.pour(0, 0);
        x.ticks(2);
        // 20 drops more are 2 hours more.
        Check.due("13: on from there", x.hour(0, 0), 10004);
    }

    private static void hourBelowZero() {
        LeakingClocks x = new LeakingClocks();
        x.clock(0, 1, 100);
        x.pour(0, 0);
        Check.due("13: rounded down", x.hour(0, 0), 9999);
        x.pour(0, 0);
        Check.due("13: just an hour", x.hour(0, 0), 9999);
        x.ticks(1);
        Check.due("13: less than an hour", x.hour(0, 0), 9999);
        LeakingClocks y = new LeakingClocks();
        y.set(0, 5000);
        y.set(3, 1);
        y.clock(0, 1, 1);
        for (int k = 0; k < 7; k++) {
            y.pour(0, 2);
        }
        y.ticks(999);
        Check.due("13: the true hour", y.hour(0, 2), 999);
        Check.due("13: far below", y.hour(0, 0), 10000 - y.clockOf(0, 1));
        Check.due("13: its error", y.hour(0, 1), 10000 - y.clockOf(0, 1) - 999);
    }

    private static void water() {
        LeakingClocks x = new LeakingClocks();
        Check.due("14: below", x.water(-1), Check.INVALID);
        Check.due("14: above", x.water(10), Check.INVALID);
        x.set(0, 500);
        x.set(1, 30);
        x.clock(0, 10, 10);
        x.clock(1, 20, 10);
        x.clock(2, 30, 10);
        x.lead(0, 2);
        x.pour(0, 2);
        x.pour(1, 1);
        x.pour(2, 0);
        Check.due("14: drips", x.ticks(1), 15 + 24 + 31);
        // The siphon had 65, dripped 31, and let them go.
        int[] due = {19050, 485 + 176 + 34, 24, 31, 200, 20000, 950, 70, 70, 31};
        for (int what = 0; what < due.length; what++) {
            Check.due("14: water " + what, x.water(what), due[what]);
        }
        x.ticks(100);
        Check.due("14: all together", x.water(5), 20000);
        Check.due("14: dripped, told in two ways", x.water(7), x.water(8));
        Check.due("14: cistern", x.water(0), 19050);
        Check.due("14: upper", x.water(1), 0);
        Check.due("14: lower", x.water(2), 200 + x.clockOf(2, 2));
        Check.due("14: wasted is let go", x.water(3), x.water(9));
    }

    private static void noon() {
        LeakingClocks x = new LeakingClocks();
        Check.due("15: ago below 0", x.noon(-1, 0), Check.INVALID);
        Check.due("15: clock below 0", x.noon(0, -1), Check.INVALID);
        Check.due("15: no noon", x.noon(0, 0), Check.MISSING);
        x.ticks(240);
        x.clock(0, 1, 1);
        Check.due("15: no such clock then", x.noon(0, 0), Check.MISSING);
        x.ticks(240);
        Check.due("15: now there is", x.noon(0, 0), 9988);
        Check.due("15: at the noon ahead there is none", x.noon(1, 0), Check.MISSING);
        Check.due("15: not so many", x.noon(2, 0), Check.MISSING);
        Check.due("15: far", x.noon(Integer.MAX_VALUE, Integer.MAX_VALUE), Check.MISSING);
        Check.due("15: far clock", x.noon(0, Integer.MAX_VALUE), Check.MISSING);
        Check.due("15: noons", x.count(10), 2);
    }

    private static void noonOfAFullBook() {
        LeakingClocks x = new LeakingClocks();
        x.set(3, 1);
        x.clock(0, 1, 1);
        for (int k = 1; k <= 7; k++) {
            x.ticks(12);
            Check.due("15: in the book", x.count(10), Math.min(k, 4));
            for (int ago = 0; ago < 6; ago++) {
                boolean there = ago < 4 && ago < k;
                Check.due("15: noon " + ago, x.noon(ago, 0), there ? 10000 - 12 * (k - ago) : Check.MISSING);
            }
        }
        Check.due("15: noons so far", x.count(4), 7);
    }
}
