/** Promises 10, 11 and 23, and what the changes record: images and the history. */
public final class ImagesTest {
    public static void main(String[] args) {
        keepAndBack();
        imageOfEverythingElse();
        undo();
        undoRestoresWhatIsNotSeen();
        aClockAfterAnUndoneOne();
        everyChangeIsRecorded();
        errorsRecordNothing();
        Check.end();
    }

    private static LeakingClocks busy() {
        LeakingClocks x = new LeakingClocks();
        x.set(3, 2);
        x.set(5, 1);
        x.clock(0, 20, 30);
        x.clock(2, 30, 40);
        x.clock(1, 9, 5);
        x.lead(0, 1);
        x.lead(1, 2);
        x.pour(0, 2);
        x.pour(1, 1);
        x.pour(2, 2);
        x.ticks(70);
        x.pour(0, 2);
        x.pour(1, 2);
        x.ticks(7);
        return x;
    }

    /** Changes everything that can be changed. */
    private static void disturb(LeakingClocks x) {
        for (int what = 0; what < 6; what++) {
            x.set(what, what == 0 ? 600 : what == 1 ? 33 : what == 2 ? 77 : what == 3 ? 1 : what == 4 ? 7 : 0);
        }
        x.clock(2, 50, 3);
        x.pour(3, 2);
        x.pour(0, 2);
        x.lead(0, 3);
        x.lead(1, 3);
        x.wax(0, 3);
        x.pitch(1, 7);
        x.trueUp(2);
        x.ticks(99);
    }

    private static void keepAndBack() {
        LeakingClocks x = new LeakingClocks();
        Check.due("10: below", x.keep(-1), Check.INVALID);
        Check.due("10: above", x.keep(2), Check.INVALID);
        Check.due("11: below", x.back(-1), Check.INVALID);
        Check.due("11: above", x.back(2), Check.INVALID);
        Check.due("11: none kept", x.back(0), Check.IMPOSSIBLE);
        Check.due("10: without clocks", x.keep(1), 0);
        Check.due("11: the other one was not", x.back(0), Check.IMPOSSIBLE);
        Check.due("10: no change", x.count(11), 0);
        x.clock(0, 1, 1);
        Check.due("10: a clock", x.keep(0), 1);
        Check.due("11: to none", x.back(1), 0);
        Check.due("11: a change", x.count(11), 2);
        Check.due("11: it stays", x.back(1), 0);
        Check.due("11: to one", x.back(0), 1);
        x.clock(0, 2, 2);
        Check.due("10: in place of it", x.keep(0), 2);
        x.back(1);
        Check.due("11: the later image", x.back(0), 2);
        Check.due("11: its clock", x.clockOf(1, 3), 2);
    }

    private static void imageOfEverythingElse() {
        LeakingClocks x = busy();
        int[] view = Check.view(x);
        Check.type(x, "abc");
        x.keep(0);
        disturb(x);
        Check.type(x, "de");
        x.back(0);
        Check.same("11", Check.view(x), view);
        Check.due("11: not the text", x.count(12), 5);
        Check.due("11: not the history", x.count(11), 4);
        x.undo();
        Check.due("11: undone", x.count(1), 4);
        Check.due("11: images stay", x.back(0), 3);
        LeakingClocks y = busy();
        y.keep(0);
        disturb(y);
        y.back(0);
        disturb(y);
        LeakingClocks z = busy();
        disturb(z);
        Check.same("11: goes on as it would have", Check.view(y), Check.view(z));
    }

    private static void undo() {
        LeakingClocks x = new LeakingClocks();
        Check.due("23: empty", x.undo(), Check.IMPOSSIBLE);
        for (int k = 1; k <= 6; k++) {
            x.set(4, k);
            Check.due("23: states", x.count(11), Math.min(k, 4));
        }
        for (int k = 3; k >= 0; k--) {
            Check.due("23: left", x.undo(), k);
            Check.due("23: what it was", x.count(24), k + 2);
        }
        Check.due("23: the oldest ones were dropped", x.undo(), Check.IMPOSSIBLE);
        Check.due("23: stays", x.count(24), 2);
        x.set(4, 9);
        x.keep(0);
        Check.type(x, "ab");
        x.undo();
        Check.due("23: not the text", x.count(12), 2);
        x.back(0);
        Check.due("23: not the images", x.count(24), 9);
    }

    private static void undoRestoresWhatIsNotSeen() {
        LeakingClocks x = busy();
        LeakingClocks y = busy();
        int[] view = Check.view(busy());
        Check.type(x, "l0,2;w0,2;c2,7,7;p0,2;p3,2;x1;x2;t99;l1,3;");
        Check.due("23: played", x.play(), 9);
        x.ticks(50);
        x.pitch(2, 9);
        x.undo();
        x.undo();
        x.undo();
        Check.same("23", Check.view(x), view);
        disturb(x);
        disturb(y);
        Check.same("23: goes on as it would have", Check.view(x), Check.view(y));
    }

    private static void aClockAfterAnUndoneOne() {
        LeakingClocks x = new LeakingClocks();
        x.clock(2, 60, 9);
        Check.type(x, "c2,40,7;p1,2;l0,1;p0,2;t30;x1;t9;");
        x.play();
        x.keep(0);
        x.undo();
        x.clock(1, 3, 3);
        LeakingClocks y = new LeakingClocks();
        y.clock(2, 60, 9);
        y.clock(1, 3, 3);
        Check.same("23: a new clock", Check.view(x), Check.view(y));
        x.pour(1, 2);
        y.pour(1, 2);
        x.set(2, 50);
        y.set(2, 50);
        x.ticks(100);
        y.ticks(100);
        Check.same("23: a new clock goes on", Check.view(x), Check.view(y));
    }

    private static void everyChangeIsRecorded() {
        for (int call = 0; call < 10; call++) {
            LeakingClocks x = new LeakingClocks();
            x.clock(0, 9, 9);
            x.keep(0);
            x.undo();
            x.back(0);
            int[] view = Check.view(x);
            Check.due("23: one state", x.count(11), 1);
            switch (call) {
                case 0: x.clock(0, 1, 1); break;
                case 1: x.lead(0, 0); break;
                case 2: x.pour(0, 0); break;
                case 3: x.wax(0, 1); break;
                case 4: x.pitch(0, 9); break;
                case 5: x.trueUp(0); break;
                case 6: x.ticks(1); break;
                case 7: x.set(4, 1); break;
                case 8: x.back(0); break;
                default: x.play();
            }
            Check.due("23: change " + call, x.count(11), 2);
            x.keep(1);
            x.type('a');
            x.clearText();
            Check.due("23: no more of it", x.count(11), 2);
            Check.due("23: undone " + call, x.undo(), 1);
            Check.same("23: change " + call, Check.view(x), view);
        }
    }

    private static void errorsRecordNothing() {
        LeakingClocks x = new LeakingClocks();
        for (int k = 0; k < 5; k++) {
            x.clock(1, 5, 5);
        }
        x.set(0, 500);
        x.pour(0, 2);
        x.undo();
        x.undo();
        x.pour(0, 2);
        int[] view = Check.view(x);
        int states = x.count(11);
        Check.type(x, "x9;");
        x.clock(0, 1, 1);
        x.clock(9, 1, 1);
        x.lead(0, 0);
        x.lead(0, 9);
        x.pour(0, 9);
        x.wax(0, 5);
        x.wax(0, 0);
        x.pitch(0, 0);
        x.trueUp(9);
        x.ticks(0);
        x.set(9, 0);
        x.back(0);
        x.back(9);
        x.play();
        Check.due("errors record nothing", x.count(11), states);
        Check.same("errors change nothing", Check.view(x), view);
    }
}
