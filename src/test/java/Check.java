/** Compares answers with those that are due, and counts those that are not. */
final class Check {
    static final int INVALID = -1000001;
    static final int IMPOSSIBLE = -1000002;
    static final int LIMIT = -1000003;
    static final int MISSING = -1000004;

    private static int asked = 0;
    private static int wrong = 0;

    static void due(String call, long got, long want) {
        asked++;
        if (got != want) {
            wrong++;
            System.out.println(call + " answered " + got + ", due is " + want);
        }
    }

    static void type(LeakingClocks x, String text) {
        for (char sign : text.toCharArray()) {
            x.type(sign);
        }
    }

    /** The answers of all calls that only ask, those about a text and the history aside. */
    static int[] view(LeakingClocks x) {
        java.util.ArrayList<Integer> answers = new java.util.ArrayList<>();
        for (int clock = 0; clock < 5; clock++) {
            for (int what = 0; what < 12; what++) {
                answers.add(x.clockOf(clock, what));
            }
            for (int what = 0; what < 3; what++) {
                answers.add(x.hour(clock, what));
            }
            for (int ago = 0; ago < 5; ago++) {
                answers.add(x.noon(ago, clock));
            }
            answers.add(x.why(clock, 2));
            answers.add(x.emptyIn(clock));
            answers.add(x.noonError(clock));
            answers.add(x.bestWax(clock, 0));
            answers.add(x.worst(clock));
        }
        for (int what = 0; what < 10; what++) {
            answers.add(x.water(what));
        }
        answers.add(x.mean());
        for (int what = 0; what < 26; what++) {
            answers.add(what == 11 || what == 12 ? 0 : x.count(what));
        }
        int[] row = new int[answers.size()];
        for (int k = 0; k < row.length; k++) {
            row[k] = answers.get(k);
        }
        return row;
    }

    static void same(String what, int[] got, int[] want) {
        due(what + ": as before", java.util.Arrays.equals(got, want) ? 1 : 0, 1);
    }

    /** Ends the test, with exit code 1 if an answer was not the one that is due. */
    static void end() {
        System.out.println(asked + " answers asked, " + wrong + " not as due");
        if (wrong != 0 || asked == 0) {
            System.exit(1);
        }
    }
}
