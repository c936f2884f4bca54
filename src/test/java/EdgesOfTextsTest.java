/** The boundary cases of the section 'Texts' and of promises 24 to 27; above each test the words that it is for. */
public final class EdgesOfTextsTest {
    private static final String[] ORDERS = {"c0,1,1;", "c02,060,500;", "p0,0;", "p00,002;", "t1;", "t999;", "x0;", "x000;", "w0,1;",
        "w000,059;", "l0,0;", "l00,01;"};
    private static final String LONGEST = "x0;x0;x0;x0;x0;x0;x0;x0;x0;x0;x0;x0;x0;x0;x0;x0;x0;x0;x0;x0;";

    public static void main(String[] args) {
        typeRanges();
        typeAtItsEnds();
        typeUpTo60();
        typeAbove60();
        emptyAtFirst();
        clearTextOfAnyLength();
        clearTextLeavesNothing();
        faultRanges();
        noFault();
        emptyHasNoFault();
        eachOrder();
        eachOrderEndsTooEarly();
        eachOrderBreaksOffAtAnySign();
        eachOrderByTheModel();
        noSuchOrder();
        digits();
        zerosAhead();
        numberOfAFourthDigit();
        lastOrderOfAFullText();
        positionOfTheFirst();
        formAheadOfDoing();
        doneAheadOfIt();
        causeIsTheErrorCode();
        causeOfEachOrder();
        textStays();
        playOfNone();
        playOfOneAndOfTwenty();
        playIsOneChange();
        playOfAFaultChangesNothing();
        playOfAFullHistory();
        playTwice();
        Check.end();
    }

    // ---- promises 24 and 25

    /** Promise 24: "character: 32 to 126" */
    private static void typeRanges() {
        Edges.outside("type", Edges::busy, LeakingClocks::type, 32, 126);
        Edges.outside("type into an empty text", LeakingClocks::new, LeakingClocks::type, 32, 126);
        // Its last 16 bits alone would be a letter.
        Edges.refused("a letter and 65536", Edges::busy, x -> x.type(65536 + 't'), Check.INVALID);
    }

    /** Promise 24: "character: 32 to 126", "Returns the length of the text" */
    private static void typeAtItsEnds() {
        LeakingClocks x = new LeakingClocks();
        Check.due("32", x.type(32), 1);
        Check.due("126", x.type(126), 2);
        Check.due("length", x.count(12), 2);
        Check.due("no change", x.count(11), 0);
    }

    /** "There is a text of at most 60 characters" */
    private static void typeUpTo60() {
        LeakingClocks x = new LeakingClocks();
        for (int k = 1; k <= 60; k++) {
            Check.due("length", x.type(LONGEST.charAt(k - 1)), k);
        }
        Check.due("a 61st", x.type('x'), Check.LIMIT);
        Check.due("60", x.count(12), 60);
        x.clock(0, 1, 1);
        Check.due("the sixtieth is read", x.play(), 20);
        Check.due("60 were cleared", x.clearText(), 60);
        Check.due("from the begin again", x.type('x'), 1);
    }

    /** Promise 24: "LIMIT_REACHED if it has 60 characters" - with 59 it is not; an invalid one is invalid then, too. */
    private static void typeAbove60() {
        Edges.refused("a 61st", () -> Edges.typed(LONGEST), x -> x.type('x'), Check.LIMIT);
        Edges.refused("a 61st that is invalid", () -> Edges.typed(LONGEST), x -> x.type(127), Check.INVALID);
        Edges.refused("a 60th that is invalid", () -> Edges.typed(LONGEST.substring(1)), x -> x.type(31), Check.INVALID);
        Check.due("a 60th", Edges.typed(LONGEST.substring(1)).type('x'), 60);
    }

    /** "initially empty" */
    private static void emptyAtFirst() {
        LeakingClocks x = new LeakingClocks();
        Check.due("length", x.count(12), 0);
        Check.due("cleared", x.clearText(), 0);
        Check.due("orders", x.play(), 0);
    }

    /** Promise 25: "Empties the text.", "Returns the length it had." - of 0, 1 and 60. */
    private static void clearTextOfAnyLength() {
        for (int length : new int[] {0, 1, 59, 60}) {
            LeakingClocks x = Edges.typed(LONGEST.substring(0, length));
            Check.due("length it had", x.clearText(), length);
            Check.due("empty", x.count(12), 0);
            Check.due("no fault", x.fault(1), Check.MISSING);
            Check.due("nothing more", x.clearText(), 0);
            Check.due("no change", x.count(11), 0);
        }
    }

    /** Promise 25: "Empties the text." - no order is ended by what stood there ahead of that. */
    private static void clearTextLeavesNothing() {
        for (String order : ORDERS) {
            for (int length = 0; length < order.length(); length++) {
                LeakingClocks x = twoClocks(order);
                x.clearText();
                String text = order.substring(0, length);
                Check.type(x, text);
                if (length > 0) {
                    fault(x, text, 0, 1, length);
                }
                Check.due("orders of " + text, x.play(), length == 0 ? 0 : Check.IMPOSSIBLE);
            }
        }
    }

    // ---- promise 26

    /** Promise 26: "what: 0: its position; 1: its reason; 2: its cause" - also where there is no fault. */
    private static void faultRanges() {
        Edges.outside("fault", Edges::busy, LeakingClocks::fault, 0, 2);
        Edges.outside("fault of an empty text", LeakingClocks::new, LeakingClocks::fault, 0, 2);
    }

    private static void fault(LeakingClocks x, String text, int place, int reason, int cause) {
        Check.due(text + ", place", x.fault(0), place);
        Check.due(text + ", reason", x.fault(1), reason);
        Check.due(text + ", cause", x.fault(2), cause);
    }

    private static void fault(String text, int place, int reason, int cause) {
        fault(Edges.typed(text), text, place, reason, cause);
    }

    /** A clock with a hole of 60, and one that it can be led to, so that each order can be done. */
    private static LeakingClocks twoClocks(String text) {
        LeakingClocks x = new LeakingClocks();
        x.clock(0, 60, 9);
        x.clock(1, 9, 9);
        Check.type(x, text);
        return x;
    }

    /** Promise 26: "NOT_FOUND if the text has no fault" */
    private static void noFault() {
        for (int what = 0; what < 3; what++) {
            int each = what;
            Edges.refused("no fault", () -> twoClocks("t1;"), x -> x.fault(each), Check.MISSING);
        }
    }

    /** Promise 26: "(also if it is empty)" */
    private static void emptyHasNoFault() {
        for (int what = 0; what < 3; what++) {
            int each = what;
            Edges.refused("empty", Edges::full, x -> x.fault(each), Check.MISSING);
        }
    }

    /** "orders, each followed by ";"": each letter with its numbers */
    private static void eachOrder() {
        for (String order : ORDERS) {
            LeakingClocks x = twoClocks(order);
            Check.due("no fault in " + order, x.fault(1), Check.MISSING);
            Check.due("is one order, " + order, x.play(), 1);
        }
    }

    /** "of one that the text ends too early it is its length" - of each beginning of each order. */
    private static void eachOrderEndsTooEarly() {
        for (String order : ORDERS) {
            for (int length = 1; length < order.length(); length++) {
                String text = order.substring(0, length);
                fault(twoClocks(text), text, 0, 1, length);
                fault(twoClocks("t1;" + text), "t1;" + text, 3, 1, length);
            }
        }
    }

    /** "at which character of the order, from 0, it breaks off" - at each, by a sign that no order has. */
    private static void eachOrderBreaksOffAtAnySign() {
        for (String order : ORDERS) {
            for (int place = 0; place < order.length(); place++) {
                for (char sign : " !+-./:<CPTXWL~a".toCharArray()) {
                    String text = order.substring(0, place) + sign + order.substring(place + 1);
                    fault(twoClocks(text), text, 0, 1, place);
                }
            }
        }
    }

    /** "of this form" - each order with a sign put in, in place of one, or left out, against the model. */
    private static void eachOrderByTheModel() {
        for (String order : ORDERS) {
            for (int place = 0; place <= order.length(); place++) {
                for (char sign = 32; sign < 127; sign++) {
                    String ahead = order.substring(0, place);
                    byTheModel(ahead + sign + order.substring(place));
                    byTheModel(ahead + sign + order.substring(Math.min(place + 1, order.length())));
                }
                byTheModel(order.substring(0, place) + order.substring(Math.min(place + 1, order.length())));
            }
        }
    }

    private static void byTheModel(String text) {
        LeakingClocks x = new LeakingClocks();
        Model model = new Model();
        for (char sign : text.toCharArray()) {
            x.type(sign);
            model.answer("type", sign, 0, 0);
        }
        for (int what = 0; what < 3; what++) {
            Check.due("fault " + what + " of " + text, x.fault(what), model.answer("fault", what, 0, 0));
        }
        Check.due("play " + text, x.play(), model.answer("play", 0, 0, 0));
    }

    /** "orders ..: "c", "p", "t", "x", "w" or "l"" - no other sign begins one. */
    private static void noSuchOrder() {
        for (char sign = 32; sign < 127; sign++) {
            if ("cptxwl".indexOf(sign) < 0) {
                fault("" + sign, 0, 1, 0);
                fault(sign + "0;", 0, 1, 0);
                fault("t1;" + sign + "1;", 3, 1, 0);
            } else {
                fault("" + sign, 0, 1, 1);
            }
        }
    }

    /** "numbers of 1 to 3 digits" - the signs just outside of 0 to 9 are none, and a number has one digit at least. */
    private static void digits() {
        fault("t;", 0, 1, 1);
        fault("t/;", 0, 1, 1);
        fault("t:;", 0, 1, 1);
        fault("t1/;", 0, 1, 2);
        fault("t1:;", 0, 1, 2);
        fault("c,1,1;", 0, 1, 1);
        fault("c1,,1;", 0, 1, 3);
        fault("c1,1,;", 0, 1, 5);
        fault("p0,;", 0, 1, 3);
        for (char digit = '0'; digit <= '9'; digit++) {
            LeakingClocks x = Edges.typed("t" + digit + ";");
            Check.due("ticks", x.play(), digit == '0' ? Check.IMPOSSIBLE : 1);
            Check.due("now", x.count(0), digit - '0');
        }
        for (String number : new String[] {"1", "12", "123", "999"}) {
            LeakingClocks x = Edges.typed("t" + number + ";");
            Check.due("ticks", x.play(), 1);
            Check.due("now", x.count(0), Integer.parseInt(number));
        }
    }

    /** "0 ahead allowed" */
    private static void zerosAhead() {
        LeakingClocks x = Edges.typed("c02,007,050;p00,002;t009;x000;w000,001;l00,00;");
        Check.due("all of them", x.play(), 6);
        Check.due("kind", x.clockOf(0, 0), 2);
        Check.due("pitch", x.clockOf(0, 4), 50);
        Check.due("width", x.clockOf(0, 3), 6);
        Check.due("now", x.count(0), 9);
        fault("t000;", 0, 2, Check.INVALID);
        fault("t00;", 0, 2, Check.INVALID);
    }

    /** "numbers of 1 to 3 digits" - it breaks off at a fourth one, though the number would be in its range. */
    private static void numberOfAFourthDigit() {
        fault("t0001;", 0, 1, 4);
        fault("t1000", 0, 1, 4);
        fault("c0000,1,1;", 0, 1, 4);
        fault("c0,0001,1;", 0, 1, 6);
        fault("c0,1,0001;", 0, 1, 8);
        fault("p0,0000;", 0, 1, 6);
        fault("x0000;", 0, 1, 4);
    }

    /** "There is a text of at most 60 characters" - of which the last one may be missing. */
    private static void lastOrderOfAFullText() {
        LeakingClocks x = new LeakingClocks();
        x.clock(0, 1, 1);
        Check.type(x, LONGEST.substring(0, 57) + "x00");
        fault(x, "without its end", 57, 1, 3);
        Check.due("not played", x.play(), Check.IMPOSSIBLE);
        LeakingClocks y = new LeakingClocks();
        Check.type(y, LONGEST);
        fault(y, "without a clock", 0, 2, Check.INVALID);
        LeakingClocks z = new LeakingClocks();
        z.clock(0, 1, 1);
        Check.type(z, LONGEST.substring(0, 57) + "x1;");
        fault(z, "the last one", 57, 2, Check.INVALID);
    }

    /** "the position, from 0, of the first character of the first order that is not possible" */
    private static void positionOfTheFirst() {
        fault("x0;x0;", 0, 2, Check.INVALID);
        fault("t1;x0;x0;", 3, 2, Check.INVALID);
        fault("t1;t22;x0;t", 7, 2, Check.INVALID);
        fault("t1;t;x0;", 3, 1, 1);
        fault("t1;t333;;", 8, 1, 0);
    }

    /** "its reason is 1 if it is not of this form, its ";" included, and otherwise 2" */
    private static void formAheadOfDoing() {
        fault("x9", 0, 1, 2);
        fault("x9,", 0, 1, 2);
        fault("x9;", 0, 2, Check.INVALID);
        fault("c9,99,999", 0, 1, 9);
        fault("c9,99,999;", 0, 2, Check.INVALID);
        fault("x9;t", 0, 2, Check.INVALID);
    }

    /** "when those ahead of it are done" - what is possible, or not, by the orders ahead of it alone. */
    private static void doneAheadOfIt() {
        LeakingClocks x = Edges.typed("c2,60,1;c0,9,9;l0,1;p0,2;t1;w0,1;x1;");
        Check.due("possible one behind the other", x.fault(0), Check.MISSING);
        Check.due("none was done by asking", x.count(1), 0);
        Check.due("all are done", x.play(), 7);
        fault("x0;c0,1,1;", 0, 2, Check.INVALID);
        fault("c0,1,1;c0,1,1;x1;x2;", 17, 2, Check.INVALID);
        fault("c0,3,1;w0,1;w0,1;w0,1;", 17, 2, Check.IMPOSSIBLE);
        // 700 and 700, and 600 of 700: full, until a tick has gone.
        fault("c0,9,9;p0,2;p0,2;p0,2;p0,0;", 22, 2, Check.IMPOSSIBLE);
        Check.due("with a tick", Edges.typed("c0,9,9;p0,2;p0,2;p0,2;t1;p0,0;").play(), 6);
    }

    /** "with the reason 2 the error code that the call returns for it" - each that there is. */
    private static void causeIsTheErrorCode() {
        fault("t0;", 0, 2, Check.INVALID);
        fault("c1,9,9;l0,0;", 7, 2, Check.IMPOSSIBLE);
        fault("c1,9,9;l0,1;", 7, 2, Check.INVALID);
        fault("c0,1,1;c0,1,1;c0,1,1;c0,1,1;c0,1,1;c0,1,1;", 35, 2, Check.LIMIT);
        fault("c0,1,1;c0,1,1;c0,1,1;c0,1,1;c0,1,1;c0,0,1;", 35, 2, Check.INVALID);
        LeakingClocks x = Edges.at(99000);
        Check.type(x, "t999;t1;");
        fault(x, "above 99999", 5, 2, Check.LIMIT);
        x.ticks(1);
        fault(x, "the first one, too", 0, 2, Check.LIMIT);
    }

    /** "the error code that the call returns for it" - with the numbers of the order in their places. */
    private static void causeOfEachOrder() {
        String[] invalid = {"c3,1,1;", "c0,0,1;", "c0,61,1;", "c0,1,0;", "c0,1,501;", "p2,0;", "p0,3;", "t0;", "x2;", "w2,1;",
            "w0,0;", "w0,60;", "l0,2;", "l1,0;", "l2,2;"};
        for (String order : invalid) {
            fault(twoClocks(order), order, 0, 2, Check.INVALID);
        }
        fault(twoClocks("w1,9;"), "w1,9;", 0, 2, Check.IMPOSSIBLE);
        fault(twoClocks("l1,1;"), "l1,1;", 0, 2, Check.IMPOSSIBLE);
        for (String order : new String[] {"c2,60,500;", "p1,2;", "t999;", "x1;", "w1,8;", "w0,59;", "l0,1;"}) {
            Check.due("just possible, " + order, twoClocks(order).fault(0), Check.MISSING);
        }
    }

    /** "The text stays, whether it has a fault or not." */
    private static void textStays() {
        for (String text : new String[] {"", "t1;", "t", "x0;"}) {
            LeakingClocks x = Edges.typed(text);
            for (int k = 0; k < 2; k++) {
                x.fault(0);
                x.play();
            }
            Check.due("the length of " + text, x.count(12), text.length());
            x.undo();
            x.keep(0);
            x.back(0);
            Check.due("the length of " + text + " behind undo and back", x.clearText(), text.length());
        }
    }

    // ---- promise 27

    /** Promise 27: "They are one change, also if there are none." */
    private static void playOfNone() {
        LeakingClocks x = new LeakingClocks();
        for (int k = 1; k <= 5; k++) {
            Check.due("no orders", x.play(), 0);
            Check.due("states", x.count(11), Math.min(k, 4));
        }
        Check.due("undone", x.undo(), 3);
    }

    /** Promise 27: "Returns how many there are in it" */
    private static void playOfOneAndOfTwenty() {
        Check.due("one", Edges.typed("t1;").play(), 1);
        LeakingClocks x = new LeakingClocks();
        x.clock(0, 1, 1);
        Check.type(x, LONGEST);
        Check.due("twenty", x.play(), 20);
        Check.due("each of them", x.clockOf(0, 10), 20);
        Check.due("as one change", x.count(11), 2);
    }

    /** Promise 27: "They are one change" - which is undone as one. */
    private static void playIsOneChange() {
        LeakingClocks x = Edges.busy();
        int[] view = Check.view(x);
        x.clearText();
        Check.type(x, "c1,9,9;l1,3;p3,2;w0,1;x2;t250;");
        Check.due("six orders", x.play(), 6);
        Check.due("four clocks", x.count(1), 4);
        Check.due("states", x.count(11), 4);
        Check.due("left", x.undo(), 3);
        Check.same("as ahead of it", Check.view(x), view);
    }

    /** Promise 27: "NOT_POSSIBLE if it has a fault" - of either reason, in the first order or in the last. */
    private static void playOfAFaultChangesNothing() {
        for (String text : new String[] {"t", "x0;", "c0,1,1;p0,2;t30;q", "c0,1,1;p0,2;t30;x1;", LONGEST}) {
            Edges.refused("play " + text, () -> Edges.typed(text), LeakingClocks::play, Check.IMPOSSIBLE);
        }
        Edges.refused("play of a busy one", Edges::busy, LeakingClocks::play, Check.IMPOSSIBLE);
    }

    /** "if there are 5 states then, the oldest one is dropped" - by play(), too. */
    private static void playOfAFullHistory() {
        LeakingClocks x = Edges.typed("t1;");
        for (int k = 1; k <= 6; k++) {
            x.play();
            Check.due("states", x.count(11), Math.min(k, 4));
        }
        for (int k = 3; k >= 0; k--) {
            Check.due("left", x.undo(), k);
            Check.due("now", x.count(0), k + 2);
        }
        Check.due("no more", x.undo(), Check.IMPOSSIBLE);
    }

    /** Promise 27: "the text, which stays" - so that it can be played on from there. */
    private static void playTwice() {
        LeakingClocks x = Edges.typed("c0,1,1;c0,1,1;");
        Check.due("two", x.play(), 2);
        Check.due("and two", x.play(), 2);
        fault(x, "the sixth", 7, 2, Check.LIMIT);
        Check.due("not any more", x.play(), Check.IMPOSSIBLE);
        x.undo();
        Check.due("two again", x.play(), 2);
    }
}
