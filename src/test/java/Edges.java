import java.util.ArrayList;
import java.util.List;

/** What the tests of boundary cases share: objects to begin with, and calls that are refused and change nothing. */
final class Edges {
    /** Makes the same object each time. */
    interface Made {
        LeakingClocks make();
    }

    interface Call {
        int on(LeakingClocks x);
    }

    interface Numbered {
        int on(LeakingClocks x, int number);
    }

    /** Three clocks of three kinds, led on, that ran; a full history, both images, and a text with a fault. */
    static LeakingClocks busy() {
        LeakingClocks x = new LeakingClocks();
        x.clock(0, 20, 30);
        x.clock(2, 30, 40);
        x.keep(0);
        x.clock(1, 9, 5);
        x.lead(0, 1);
        x.lead(1, 2);
        x.pour(0, 2);
        x.pour(1, 1);
        x.keep(1);
        x.ticks(250);
        x.pour(0, 2);
        x.pour(1, 2);
        x.ticks(7);
        Check.type(x, "t5;x7;");
        return x;
    }

    static LeakingClocks busyWithFive() {
        LeakingClocks x = busy();
        x.clock(1, 60, 3);
        x.clock(2, 1, 500);
        return x;
    }

    /** A clock whose upper vessel is full, and an empty one. */
    static LeakingClocks full() {
        LeakingClocks x = new LeakingClocks();
        x.set(0, 500);
        x.clock(0, 20, 30);
        x.clock(1, 1, 30);
        x.pour(0, 2);
        x.keep(0);
        x.keep(1);
        return x;
    }

    /** Five clocks with so much water that the cistern has but some drops left, a multiple of 50. */
    static LeakingClocks cistern(int left) {
        LeakingClocks x = new LeakingClocks();
        for (int k = 0; k < 5; k++) {
            x.clock(1, 60, 100);
        }
        x.set(0, 5000);
        int more = 20000 - left;
        for (int k = 0; more > 0; k++) {
            int jug = more >= 700 ? 2 : more >= 200 ? 1 : 0;
            x.pour(k % 5, jug);
            more -= jug == 2 ? 700 : jug == 1 ? 200 : 50;
        }
        return x;
    }

    /** An object with a clock of each kind, at a tick. */
    static LeakingClocks at(int tick) {
        LeakingClocks x = new LeakingClocks();
        for (int kind = 0; kind < 3; kind++) {
            x.clock(kind, 9, 9);
        }
        for (int left = tick; left > 0; left -= 999) {
            x.ticks(Math.min(left, 999));
        }
        return x;
    }

    /** An object with nothing but a text. */
    static LeakingClocks typed(String text) {
        LeakingClocks x = new LeakingClocks();
        Check.type(x, text);
        return x;
    }

    /** The call answers the error, and the object goes on as one on which it was not tried. */
    static void refused(String what, Made made, Call call, int error) {
        for (int look = 0; look < 4; look++) {
            LeakingClocks tried = made.make();
            LeakingClocks spared = made.make();
            Check.due(what, call.on(tried), error);
            Check.same(what + ", look " + look, look(tried, look), look(spared, look));
        }
    }

    /** The numbers just outside of a range, and the farthest ones, are invalid and change nothing. */
    static void outside(String what, Made made, Numbered call, int least, int most) {
        for (int number : new int[] {least - 1, most + 1, Integer.MIN_VALUE, Integer.MAX_VALUE}) {
            refused(what + " " + number, made, x -> call.on(x, number), Check.INVALID);
        }
    }

    /** There is no such clock: the numbers outside of those of the clocks of busy(), and where there are none. */
    static void noClock(String what, Numbered call) {
        outside(what, Edges::busy, call, 0, 2);
        outside(what + ", of five", Edges::busyWithFive, call, 0, 4);
        refused(what + ", without clocks", LeakingClocks::new, x -> call.on(x, 0), Check.INVALID);
    }

    /** The object goes on as one on which the call was not tried, whatever it answers. */
    static void changesNothing(String what, Made made, Call call) {
        for (int look = 0; look < 4; look++) {
            LeakingClocks tried = made.make();
            call.on(tried);
            Check.same(what + ", look " + look, look(tried, look), look(made.make(), look));
        }
    }

    /** Answers that tell apart what objects hold: all at once would be more calls than an object answers. */
    private static int[] look(LeakingClocks x, int look) {
        List<Integer> answers = new ArrayList<>();
        answers.add(x.count(11));
        answers.add(x.count(12));
        switch (look) {
            case 0: lookAtIt(x, answers); break;
            case 1: lookBack(x, answers); break;
            case 2: lookAtImages(x, answers); break;
            default: lookOn(x, answers);
        }
        return answers.stream().mapToInt(k -> k).toArray();
    }

    private static void lookAtIt(LeakingClocks x, List<Integer> answers) {
        for (int answer : Check.view(x)) {
            answers.add(answer);
        }
        for (int what = 0; what < 3; what++) {
            answers.add(x.fault(what));
        }
        answers.add(x.play());
        glance(x, answers);
    }

    private static void lookBack(LeakingClocks x, List<Integer> answers) {
        int left = x.undo();
        while (left >= 0) {
            answers.add(left);
            glance(x, answers);
            left = x.undo();
        }
        answers.add(left);
    }

    private static void lookAtImages(LeakingClocks x, List<Integer> answers) {
        for (int image = 0; image < 2; image++) {
            answers.add(x.back(image));
            glance(x, answers);
        }
    }

    private static void lookOn(LeakingClocks x, List<Integer> answers) {
        answers.add(x.set(2, 50));
        answers.add(x.ticks(1));
        glance(x, answers);
        answers.add(x.pour(0, 2));
        answers.add(x.ticks(300));
        glance(x, answers);
        answers.add(x.clock(0, 7, 7));
        glance(x, answers);
    }

    private static void glance(LeakingClocks x, List<Integer> answers) {
        for (int what = 0; what < 26; what++) {
            answers.add(x.count(what));
        }
        for (int what = 0; what < 10; what++) {
            answers.add(x.water(what));
        }
        for (int clock = 0; clock < 5; clock++) {
            for (int what = 1; what < 11; what++) {
                answers.add(x.clockOf(clock, what));
            }
            answers.add(x.hour(clock, 0));
            answers.add(x.noon(0, clock));
        }
    }

    private Edges() {
    }
}
