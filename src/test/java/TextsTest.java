/** Promises 24 to 27: texts. */
public final class TextsTest {
    public static void main(String[] args) {
        type();
        clearText();
        faultOfForm();
        faultOfDoing();
        firstFault();
        noFault();
        play();
        playOfAFault();
        playIsOneChange();
        Check.end();
    }

    private static void type() {
        LeakingClocks x = new LeakingClocks();
        Check.due("24: below", x.type(31), Check.INVALID);
        Check.due("24: above", x.type(127), Check.INVALID);
        Check.due("24: far below", x.type(Integer.MIN_VALUE), Check.INVALID);
        Check.due("24: beyond a char", x.type(65536 + 't'), Check.INVALID);
        Check.due("24: least", x.type(32), 1);
        Check.due("24: most", x.type(126), 2);
        for (int k = 3; k <= 60; k++) {
            Check.due("24: length", x.type('t'), k);
        }
        Check.due("24: full", x.type('t'), Check.LIMIT);
        Check.due("24: invalid ahead of limit", x.type(127), Check.INVALID);
        Check.due("24: stays", x.count(12), 60);
        Check.due("24: no change", x.count(11), 0);
    }

    private static void clearText() {
        LeakingClocks x = new LeakingClocks();
        Check.due("25: empty", x.clearText(), 0);
        Check.type(x, "t5;");
        Check.due("25: length", x.clearText(), 3);
        Check.due("25: none", x.count(12), 0);
        Check.due("25: no orders", x.play(), 0);
        Check.due("25: from the begin again", x.type('x'), 1);
    }

    private static void fault(String text, int place, int reason, int cause) {
        LeakingClocks x = new LeakingClocks();
        Check.type(x, text);
        int length = x.count(12);
        int[] due = {place, reason, cause};
        for (int what = 0; what < 3; what++) {
            Check.due("26: " + text + " " + what, x.fault(what), due[what]);
        }
        Check.due("26: above", x.fault(3), Check.INVALID);
        Check.due("26: below", x.fault(-1), Check.INVALID);
        Check.due("27: " + text, x.play(), Check.IMPOSSIBLE);
        Check.due("27: no change", x.count(11), 0);
        Check.due("26: the text stays", x.count(12), length);
    }

    private static void faultOfForm() {
        fault("q", 0, 1, 0);
        fault(";", 0, 1, 0);
        fault(" t1;", 0, 1, 0);
        fault("T1;", 0, 1, 0);
        fault("t", 0, 1, 1);
        fault("t;", 0, 1, 1);
        fault("t1", 0, 1, 2);
        fault("t123", 0, 1, 4);
        fault("t1234;", 0, 1, 4);
        fault("t1,", 0, 1, 2);
        fault("t-1;", 0, 1, 1);
        fault("t 1;", 0, 1, 1);
        fault("t1;t1", 3, 1, 2);
        fault("t1;;", 3, 1, 0);
        fault("c0;", 0, 1, 2);
        fault("c0,1;", 0, 1, 4);
        fault("c0,1,", 0, 1, 5);
        fault("c0,1,1", 0, 1, 6);
        fault("c0,1,1,", 0, 1, 6);
        fault("c,1,1;", 0, 1, 1);
        fault("c0,,1;", 0, 1, 3);
        fault("c0000,1,1;", 0, 1, 4);
        fault("p0;", 0, 1, 2);
        fault("p0,1,2;", 0, 1, 4);
        fault("w0;", 0, 1, 2);
        fault("l0;", 0, 1, 2);
        fault("x0,1;", 0, 1, 2);
        fault("c0,1,1;x0;l", 10, 1, 1);
    }

    private static void faultOfDoing() {
        fault("t0;", 0, 2, Check.INVALID);
        fault("t000;", 0, 2, Check.INVALID);
        fault("x0;", 0, 2, Check.INVALID);
        fault("c3,1,1;", 0, 2, Check.INVALID);
        fault("c0,61,1;", 0, 2, Check.INVALID);
        fault("c0,1,501;", 0, 2, Check.INVALID);
        fault("c0,1,1;p0,3;", 7, 2, Check.INVALID);
        fault("c0,1,1;w0,60;", 7, 2, Check.INVALID);
        fault("c0,1,1;w0,1;", 7, 2, Check.IMPOSSIBLE);
        fault("c1,1,1;l0,0;", 7, 2, Check.IMPOSSIBLE);
        fault("c0,1,1;l0,1;", 7, 2, Check.INVALID);
        fault("c0,1,1;p0,2;p0,2;p0,2;p0,2;", 22, 2, Check.IMPOSSIBLE);
        fault("c0,1,1;c0,1,1;c0,1,1;c0,1,1;c0,1,1;c0,1,1;", 35, 2, Check.LIMIT);
        LeakingClocks x = new LeakingClocks();
        for (int k = 0; k < 100; k++) {
            x.ticks(999);
        }
        Check.type(x, "t90;t9;t1;");
        Check.due("26: after the last tick", x.fault(2), Check.LIMIT);
        Check.due("26: its place", x.fault(0), 7);
    }

    private static void firstFault() {
        fault("x0;q", 0, 2, Check.INVALID);
        fault("q;x0;", 0, 1, 0);
        fault("t1;x0;t", 3, 2, Check.INVALID);
        fault("t1;t;x0;", 3, 1, 1);
    }

    private static void noFault() {
        LeakingClocks x = new LeakingClocks();
        Check.due("26: empty", x.fault(0), Check.MISSING);
        Check.due("26: invalid ahead of missing", x.fault(3), Check.INVALID);
        Check.type(x, "c0,001,05;t999;");
        for (int what = 0; what < 3; what++) {
            Check.due("26: none", x.fault(what), Check.MISSING);
        }
        Check.due("26: nothing was done", x.count(1), 0);
        Check.due("26: no tick went", x.count(0), 0);
        x.type('x');
        Check.due("26: now it has", x.fault(0), 15);
        x.clearText();
        Check.due("26: no more", x.fault(0), Check.MISSING);
        Check.type(x, "t9;");
        x.clearText();
        Check.type(x, "t9");
        Check.due("26: not by the signs of a text that was cleared", x.fault(2), 2);
        x.clearText();
        Check.type(x, "t");
        Check.due("26: nor by its digits", x.fault(2), 1);
    }

    private static void play() {
        LeakingClocks x = new LeakingClocks();
        Check.type(x, "c2,010,060;c1,20,30;l0,1;p0,2;p1,000;w1,02;t012;x0;");
        Check.due("27: orders", x.play(), 8);
        Check.due("27: the text stays", x.count(12), 51);
        LeakingClocks y = new LeakingClocks();
        y.clock(2, 10, 60);
        y.clock(1, 20, 30);
        y.lead(0, 1);
        y.pour(0, 2);
        y.pour(1, 0);
        y.wax(1, 2);
        y.ticks(12);
        y.trueUp(0);
        Check.same("27: as the calls", Check.view(x), Check.view(y));
        Check.due("27: once more", x.play(), 8);
        Check.due("27: four clocks", x.count(1), 4);
        Check.due("27: no third time", x.play(), Check.IMPOSSIBLE);
        Check.due("27: for too many clocks", x.fault(2), Check.LIMIT);
        Check.due("27: in the second order", x.fault(0), 11);
        LeakingClocks z = new LeakingClocks();
        z.clock(0, 1, 1);
        Check.type(z, "x0;x0;x0;x0;x0;x0;x0;x0;x0;x0;x0;x0;x0;x0;x0;x0;x0;x0;x0;x0;");
        Check.due("27: most orders", z.play(), 20);
        Check.due("27: each done", z.count(6), 20);
    }

    private static void playOfAFault() {
        LeakingClocks x = new LeakingClocks();
        x.clock(0, 9, 9);
        int[] view = Check.view(x);
        Check.type(x, "p0,1;t9;x7;");
        Check.due("27: a fault", x.play(), Check.IMPOSSIBLE);
        Check.same("27: nothing done", Check.view(x), view);
        Check.due("27: nothing recorded", x.count(11), 1);
    }

    private static void playIsOneChange() {
        LeakingClocks x = new LeakingClocks();
        int[] view = Check.view(x);
        Check.due("27: no orders", x.play(), 0);
        Check.due("27: one change", x.count(11), 1);
        Check.type(x, "c0,1,1;p0,2;t5;");
        x.play();
        Check.due("27: one more", x.count(11), 2);
        Check.due("27: undone", x.undo(), 1);
        Check.same("27: as before", Check.view(x), view);
        Check.due("27: undone, too", x.undo(), 0);
    }
}
