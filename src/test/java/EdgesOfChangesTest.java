/** The boundary cases of 'Changes and errors' and of promises 10, 11 and 23; above each test the words that it is for. */
public final class EdgesOfChangesTest {
    private static final Edges.Call[] CHANGES = {x -> x.clock(0, 1, 1), x -> x.lead(0, 2), x -> x.pour(0, 0), x -> x.wax(0, 1),
        x -> x.pitch(0, 9), x -> x.trueUp(0), x -> x.ticks(1), x -> x.set(4, 9), x -> x.back(0), LeakingClocks::play};

    public static void main(String[] args) {
        keepRanges();
        keepOfNoClocks();
        keepReturnsHowManyClocks();
        keepInPlace();
        keepIsNoChange();
        imagesAreApart();
        backRanges();
        backOfNone();
        backStays();
        backLeavesTextAndHistory();
        backRestoresAll();
        undoOfNone();
        undoDownToNone();
        undoLeavesTextAndImages();
        undoRestoresAll();
        undoIsNotUndone();
        fourStates();
        fifthStateDropsTheOldest();
        stateBehindUndo();
        eachChange();
        eachChangeThatShowsNothing();
        noOtherCallIsAChange();
        refusedCallsAreNoChanges();
        invalidAheadOfNotPossible();
        invalidAheadOfLimit();
        invalidAheadOfNotFound();
        noSuchClock();
        Check.end();
    }

    // ---- promises 10 and 11

    /** Promise 10: "INVALID_ARGUMENT if image is out of range" */
    private static void keepRanges() {
        Edges.outside("keep", Edges::busy, LeakingClocks::keep, 0, 1);
        Edges.outside("keep, none kept so far", LeakingClocks::new, LeakingClocks::keep, 0, 1);
    }

    /** Promise 10: "Returns how many clocks there are" - none; and such an image is one, too. */
    private static void keepOfNoClocks() {
        LeakingClocks x = new LeakingClocks();
        Check.due("none", x.keep(0), 0);
        x.clock(0, 1, 1);
        Check.due("back to none", x.back(0), 0);
        Check.due("clocks", x.count(1), 0);
        Check.due("no clock 0", x.clockOf(0, 0), Check.INVALID);
    }

    /** Promises 10 and 11: "Returns how many clocks there are" - up to 5. */
    private static void keepReturnsHowManyClocks() {
        LeakingClocks x = new LeakingClocks();
        for (int k = 1; k <= 5; k++) {
            x.clock(0, 1, 1);
            Check.due("kept", x.keep(k % 2), k);
        }
        Check.due("with 4", x.back(0), 4);
        Check.due("no fifth", x.clockOf(4, 0), Check.INVALID);
        Check.due("with 5", x.back(1), 5);
        Check.due("a fifth", x.clockOf(4, 0), 0);
    }

    /** Promise 10: "in place of the one that there was" */
    private static void keepInPlace() {
        LeakingClocks x = new LeakingClocks();
        x.clock(0, 1, 1);
        x.keep(0);
        x.wax(0, 1);
        x.pour(0, 0);
        x.keep(0);
        x.pour(0, 1);
        x.back(0);
        Check.due("the later one", x.clockOf(0, 1), 50);
        x.undo();
        x.undo();
        x.undo();
        Check.due("undone", x.clockOf(0, 1), 0);
        Check.due("not by undo", x.back(0), 1);
        Check.due("still the later one", x.clockOf(0, 1), 50);
    }

    /** "The changes are the calls of .. back and play" - keep is none: it is not recorded, and not undone. */
    private static void keepIsNoChange() {
        LeakingClocks x = new LeakingClocks();
        x.keep(0);
        Check.due("no state", x.count(11), 0);
        Check.due("nothing to undo", x.undo(), Check.IMPOSSIBLE);
        Check.due("kept", x.back(0), 0);
    }

    /** Promise 10: "image: 0 or 1" - each by itself. */
    private static void imagesAreApart() {
        for (int image = 0; image < 2; image++) {
            LeakingClocks x = new LeakingClocks();
            x.clock(0, 1, 1);
            x.keep(image);
            Check.due("the other was not kept", x.back(1 - image), Check.IMPOSSIBLE);
            Check.due("this one was", x.back(image), 1);
            x.clock(0, 1, 1);
            x.keep(1 - image);
            Check.due("the one", x.back(image), 1);
            Check.due("the other", x.back(1 - image), 2);
        }
    }

    /** Promise 11: "INVALID_ARGUMENT if image is out of range" - also if none was kept. */
    private static void backRanges() {
        Edges.outside("back", Edges::busy, LeakingClocks::back, 0, 1);
        Edges.outside("back, none kept", LeakingClocks::new, LeakingClocks::back, 0, 1);
    }

    /** Promise 11: "NOT_POSSIBLE if none was kept" */
    private static void backOfNone() {
        for (int image = 0; image < 2; image++) {
            int each = image;
            Edges.refused("none at all", LeakingClocks::new, x -> x.back(each), Check.IMPOSSIBLE);
            Edges.Made made = () -> {
                LeakingClocks x = new LeakingClocks();
                x.clock(1, 9, 9);
                x.pour(0, 2);
                x.keep(1 - each);
                x.ticks(9);
                return x;
            };
            Edges.refused("not this one", made, x -> x.back(each), Check.IMPOSSIBLE);
            Edges.refused("by a keep that was refused", LeakingClocks::new, x -> x.keep(2) == Check.INVALID ? x.back(each) : 0,
                Check.IMPOSSIBLE);
        }
    }

    /** Promise 11: "Goes back to an image, which stays." */
    private static void backStays() {
        LeakingClocks x = new LeakingClocks();
        x.clock(0, 1, 1);
        x.keep(0);
        for (int k = 0; k < 3; k++) {
            x.pour(0, 2);
            x.ticks(9);
            x.set(0, 500);
            Check.due("back", x.back(0), 1);
            Check.due("upper", x.clockOf(0, 1), 0);
            Check.due("now", x.count(0), 0);
            Check.due("setting", x.count(20), 2000);
        }
    }

    /** Promise 10: "everything but the text, the history and the images" */
    private static void backLeavesTextAndHistory() {
        LeakingClocks x = new LeakingClocks();
        x.type('t');
        x.keep(0);
        x.clock(0, 1, 1);
        x.keep(1);
        x.type('1');
        x.ticks(5);
        x.type(';');
        Check.due("two states", x.count(11), 2);
        Check.due("back", x.back(0), 0);
        Check.due("the text is as it was", x.count(12), 3);
        Check.due("one state more", x.count(11), 3);
        Check.due("the other image is as it was", x.back(1), 1);
        Check.due("undone", x.undo(), 3);
        Check.due("no clocks", x.count(1), 0);
        Check.due("undone", x.undo(), 2);
        Check.due("5 ticks", x.count(0), 5);
        Check.due("played", x.play(), 1);
        Check.due("6 ticks", x.count(0), 6);
    }

    /** Changes everything that an image holds. */
    private static void disturb(LeakingClocks x) {
        int[] values = {600, 33, 77, 1, 7, 1};
        for (int what = 0; what < 6; what++) {
            x.set(what, values[what]);
        }
        x.clock(2, 50, 3);
        x.pour(3, 2);
        x.pour(0, 2);
        x.lead(0, 3);
        x.wax(0, 3);
        x.pitch(1, 7);
        x.trueUp(2);
        x.ticks(99);
    }

    /** Promise 11: "Goes back to an image" - of everything, to be seen or not. */
    private static void backRestoresAll() {
        Edges.Made made = () -> {
            LeakingClocks x = Edges.busy();
            x.keep(0);
            return x;
        };
        int[] view = Check.view(made.make());
        LeakingClocks x = made.make();
        disturb(x);
        Check.due("back", x.back(0), 3);
        Check.same("back", Check.view(x), view);
        LeakingClocks y = made.make();
        disturb(y);
        y.back(0);
        disturb(y);
        LeakingClocks z = made.make();
        disturb(z);
        Check.same("goes on as it would have", Check.view(y), Check.view(z));
    }

    // ---- promise 23 and the history

    /** Promise 23: "NOT_POSSIBLE if it is empty" */
    private static void undoOfNone() {
        Edges.refused("undo of none", LeakingClocks::new, LeakingClocks::undo, Check.IMPOSSIBLE);
        Edges.Made made = () -> {
            LeakingClocks x = Edges.busy();
            for (int k = 0; k < 4; k++) {
                x.undo();
            }
            return x;
        };
        Check.due("clocks are left", made.make().count(1), 3);
        Edges.refused("undo of no more", made, LeakingClocks::undo, Check.IMPOSSIBLE);
    }

    /** Promise 23: "Returns the number of states that are left in the history" - down to none. */
    private static void undoDownToNone() {
        LeakingClocks x = new LeakingClocks();
        for (int k = 0; k < 4; k++) {
            x.ticks(1);
        }
        for (int k = 3; k >= 0; k--) {
            Check.due("left", x.undo(), k);
            Check.due("states", x.count(11), k);
            Check.due("now", x.count(0), k);
        }
        Check.due("none", x.undo(), Check.IMPOSSIBLE);
        Check.due("none, again", x.undo(), Check.IMPOSSIBLE);
        Check.due("now", x.count(0), 0);
    }

    /** "each change records everything before it but the text and the images" */
    private static void undoLeavesTextAndImages() {
        LeakingClocks x = new LeakingClocks();
        x.type('a');
        x.clock(0, 1, 1);
        x.type('b');
        x.keep(0);
        Check.due("undone", x.undo(), 0);
        Check.due("no clocks", x.count(1), 0);
        Check.due("the text is as it was", x.count(12), 2);
        Check.due("the image is as it was", x.back(0), 1);
        x.clearText();
        x.undo();
        Check.due("the text stays empty", x.count(12), 0);
    }

    /** "each change records everything before it" - each of the 10, to be seen or not. */
    private static void undoRestoresAll() {
        int[] view = Check.view(Edges.busy());
        LeakingClocks on = Edges.busy();
        disturb(on);
        int[] viewOn = Check.view(on);
        for (int k = 0; k < CHANGES.length; k++) {
            LeakingClocks x = Edges.busy();
            if (k == 9) {
                x.clearText();
                Check.type(x, "c0,1,1;t9;");
            }
            Check.due("change " + k, CHANGES[k].on(x) >= 0 ? 1 : 0, 1);
            Check.due("undone " + k, x.undo(), 3);
            Check.same("as before change " + k, Check.view(x), view);
            LeakingClocks y = Edges.busy();
            CHANGES[k].on(y);
            if (k < 9) {
                y.undo();
            }
            disturb(y);
            Check.same("goes on as before change " + k, Check.view(y), viewOn);
        }
    }

    /** "The changes are the calls of .." - undo is none: what it undid is gone. */
    private static void undoIsNotUndone() {
        LeakingClocks x = new LeakingClocks();
        x.ticks(1);
        x.ticks(2);
        Check.due("one left", x.undo(), 1);
        Check.due("1 tick", x.count(0), 1);
        Check.due("none left", x.undo(), 0);
        Check.due("no tick", x.count(0), 0);
    }

    /** "A history of at most 4 states is kept" */
    private static void fourStates() {
        LeakingClocks x = new LeakingClocks();
        Check.due("none at first", x.count(11), 0);
        for (int k = 1; k <= 9; k++) {
            x.ticks(1);
            Check.due("states", x.count(11), Math.min(k, 4));
        }
    }

    /** "if there are 5 states then, the oldest one is dropped" - by each of 5 to 9 changes one. */
    private static void fifthStateDropsTheOldest() {
        for (int changes = 4; changes <= 9; changes++) {
            LeakingClocks x = new LeakingClocks();
            for (int k = 0; k < changes; k++) {
                x.ticks(1);
            }
            for (int k = 3; k >= 0; k--) {
                Check.due("left", x.undo(), k);
                Check.due("now", x.count(0), changes - 4 + k);
            }
            Check.due("no more", x.undo(), Check.IMPOSSIBLE);
            Check.due("as the oldest that is left", x.count(0), changes - 4);
        }
    }

    /** "Restores the latest state of the history, which is removed from it." - changes go on from there. */
    private static void stateBehindUndo() {
        LeakingClocks x = new LeakingClocks();
        for (int k = 0; k < 6; k++) {
            x.ticks(1);
        }
        x.undo();
        x.undo();
        x.ticks(10);
        Check.due("now", x.count(0), 14);
        Check.due("states", x.count(11), 3);
        x.ticks(10);
        x.ticks(10);
        Check.due("states", x.count(11), 4);
        int[] due = {24, 14, 4, 3};
        for (int k = 0; k < 4; k++) {
            Check.due("left", x.undo(), 3 - k);
            Check.due("now", x.count(0), due[k]);
        }
    }

    /** "The changes are the calls of clock, lead, pour, wax, pitch, trueUp, ticks, set, back and play" */
    private static void eachChange() {
        for (int k = 0; k < CHANGES.length; k++) {
            LeakingClocks x = new LeakingClocks();
            x.keep(0);
            for (int c = 0; c < 3; c++) {
                x.clock(0, 9, 9);
            }
            Check.due("change " + k, CHANGES[k].on(x) >= 0 ? 1 : 0, 1);
            Check.due("is recorded, " + k, x.count(11), 4);
            Check.due("is undone, " + k, x.undo(), 3);
            Check.due("clocks", x.count(1), 3);
        }
    }

    /** "The changes are the calls of .. that return no error" - also those by which nothing is other than before. */
    private static void eachChangeThatShowsNothing() {
        Edges.Call[] calls = {x -> x.lead(0, 0), x -> x.set(0, 2000), x -> x.back(0), LeakingClocks::play, x -> x.trueUp(0),
            x -> x.pitch(0, 9)};
        for (int k = 0; k < calls.length; k++) {
            LeakingClocks x = new LeakingClocks();
            x.clock(0, 9, 9);
            x.keep(0);
            Check.due("call " + k, calls[k].on(x) >= 0 ? 1 : 0, 1);
            Check.due("is recorded, " + k, x.count(11), 2);
        }
    }

    /** "The changes are the calls of .." - and of no others, whatever they answer. */
    private static void noOtherCallIsAChange() {
        Edges.Call[] calls = {x -> x.keep(0), x -> x.clockOf(0, 0), x -> x.hour(0, 0), x -> x.water(0), x -> x.noon(0, 0),
            x -> x.why(0, 0), x -> x.emptyIn(0), x -> x.noonError(0), x -> x.bestWax(0, 0), x -> x.worst(0), x -> x.mean(),
            x -> x.count(0), x -> x.type('a'), LeakingClocks::clearText, x -> x.fault(0)};
        for (int k = 0; k < calls.length; k++) {
            LeakingClocks x = new LeakingClocks();
            x.clock(0, 9, 9);
            x.ticks(240);
            calls[k].on(x);
            Check.due("call " + k, x.count(11), 2);
            Check.due("is not undone, " + k, x.undo(), 1);
            Check.due("the ticks are, " + k, x.count(0), 0);
        }
    }

    // ---- errors

    /** "A call that returns an error changes nothing." - the history neither, be it full or not. */
    private static void refusedCallsAreNoChanges() {
        Edges.Call[] calls = {x -> x.clock(3, 1, 1), x -> x.clock(0, 1, 1), x -> x.lead(0, 5), x -> x.lead(2, 2), x -> x.pour(0, 3),
            x -> x.pour(5, 0), x -> x.wax(0, 0), x -> x.wax(4, 1), x -> x.wax(3, 60), x -> x.pitch(0, 0), x -> x.trueUp(5),
            x -> x.ticks(0), x -> x.ticks(1000), x -> x.set(0, 499), x -> x.set(6, 0), x -> x.back(2), LeakingClocks::play,
            x -> x.keep(2), x -> x.type(31)};
        for (int k = 0; k < calls.length; k++) {
            LeakingClocks x = Edges.busyWithFive();
            Check.due("refused, " + k, calls[k].on(x) < 0 ? 1 : 0, 1);
            Check.due("four states, " + k, x.count(11), 4);
            Check.due("undone, " + k, x.undo(), 3);
            Check.due("four clocks, " + k, x.count(1), 4);
            Edges.changesNothing("refused, " + k, Edges::busyWithFive, calls[k]);
        }
    }

    /** "INVALID_ARGUMENT is returned rather than NOT_POSSIBLE" */
    private static void invalidAheadOfNotPossible() {
        Edges.refused("a rising one to one below", Edges::busyWithFive, x -> x.lead(2, 1), Check.INVALID);
        Edges.refused("a rising one to none such", Edges::busyWithFive, x -> x.lead(2, 5), Check.INVALID);
        Edges.refused("into a full one, no such jug", Edges::full, x -> x.pour(0, 3), Check.INVALID);
        Edges.refused("of an empty cistern, no such jug", () -> Edges.cistern(0), x -> x.pour(0, -1), Check.INVALID);
        Edges.refused("of an empty cistern, no such clock", () -> Edges.cistern(0), x -> x.pour(5, 0), Check.INVALID);
        Edges.refused("all of a hole, too much wax", Edges::full, x -> x.wax(0, 60), Check.INVALID);
        Edges.refused("an image that there is not, none kept", LeakingClocks::new, x -> x.back(2), Check.INVALID);
    }

    /** "INVALID_ARGUMENT is returned rather than" LIMIT_REACHED */
    private static void invalidAheadOfLimit() {
        Edges.refused("a sixth clock, kind", Edges::busyWithFive, x -> x.clock(3, 1, 1), Check.INVALID);
        Edges.refused("a sixth clock, width", Edges::busyWithFive, x -> x.clock(0, 61, 1), Check.INVALID);
        Edges.refused("a sixth clock, pitch", Edges::busyWithFive, x -> x.clock(0, 1, 0), Check.INVALID);
        Edges.refused("too many ticks at the last", () -> Edges.at(99999), x -> x.ticks(1000), Check.INVALID);
        Edges.refused("no ticks at the last", () -> Edges.at(99999), x -> x.ticks(0), Check.INVALID);
    }

    /** "INVALID_ARGUMENT is returned rather than" NOT_FOUND */
    private static void invalidAheadOfNotFound() {
        Edges.refused("a lower vessel of no clock", LeakingClocks::new, x -> x.clockOf(0, 2), Check.INVALID);
        Edges.refused("a noon ahead of all", LeakingClocks::new, x -> x.noon(-1, 0), Check.INVALID);
        Edges.refused("a clock below 0 of no noon", LeakingClocks::new, x -> x.noon(0, -1), Check.INVALID);
        Edges.refused("a rank below 0 of no clocks", LeakingClocks::new, x -> x.worst(-1), Check.INVALID);
        Edges.refused("what of no fault", LeakingClocks::new, x -> x.fault(3), Check.INVALID);
    }

    /** "If there is no clock with a certain number, this is INVALID_ARGUMENT." - for each call that names a clock. */
    private static void noSuchClock() {
        Edges.Numbered[] calls = {(x, k) -> x.lead(k, k), (x, k) -> x.lead(0, k), (x, k) -> x.pour(k, 0), (x, k) -> x.wax(k, 1),
            (x, k) -> x.pitch(k, 1), (x, k) -> x.trueUp(k), (x, k) -> x.clockOf(k, 0), (x, k) -> x.hour(k, 0),
            (x, k) -> x.why(k, 0), (x, k) -> x.emptyIn(k), (x, k) -> x.noonError(k), (x, k) -> x.bestWax(k, 0)};
        for (int call = 0; call < calls.length; call++) {
            for (int clocks = 0; clocks <= 5; clocks++) {
                LeakingClocks x = new LeakingClocks();
                for (int k = 0; k < clocks; k++) {
                    x.clock(2, 60, 1);
                }
                for (int k : new int[] {clocks, clocks + 1, 5, 6, -1, Integer.MAX_VALUE, Integer.MIN_VALUE}) {
                    Check.due("call " + call + " of " + k + " with " + clocks, calls[call].on(x, k), Check.INVALID);
                }
                for (int k = 0; k < clocks; k++) {
                    Check.due("call " + call + " of " + k + ", there is one", calls[call].on(x, k) >= 0 ? 1 : 0, 1);
                }
            }
        }
    }
}
