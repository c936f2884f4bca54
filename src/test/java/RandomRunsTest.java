import java.util.Random;

/** Runs of 512 calls each, against the model; the seeds are fixed, so that each run is the same every time. */
public final class RandomRunsTest {
    private static final int RUNS = 300;
    private static final String[] CALLS = {
        "clock", "lead", "pour", "pour", "pour", "wax", "pitch", "trueUp", "ticks", "ticks", "ticks", "set", "set", "keep",
        "back", "clockOf", "clockOf", "clockOf", "hour", "hour", "water", "water", "noon", "why", "emptyIn", "noonError",
        "bestWax", "worst", "mean", "count", "count", "undo", "text", "clearText", "fault", "play"};
    private static final int[] EDGES = {-1, 0, 1, 2, 3, 4, 5, 6, 59, 60, 61, 499, 500, 501, 999, 1000, 5000,
        Integer.MIN_VALUE, Integer.MAX_VALUE};

    public static void main(String[] args) {
        for (int run = 0; run < RUNS; run++) {
            oneRun(run);
        }
        Check.end();
    }

    private static void oneRun(int run) {
        Random random = new Random(run);
        LeakingClocks x = new LeakingClocks();
        Model model = new Model();
        int made = 0;
        while (made < 512) {
            String call = CALLS[random.nextInt(CALLS.length)];
            if (call.equals("text")) {
                String order = order(random);
                for (int k = 0; k < order.length() && made < 512; k++) {
                    ask(run, x, model, "type", order.charAt(k), 0, 0);
                    made++;
                }
            } else {
                int[] n = arguments(random, call);
                ask(run, x, model, call, n[0], n[1], n[2]);
                made++;
            }
        }
    }

    private static void ask(int run, LeakingClocks x, Model model, String call, int a, int b, int c) {
        int got = answer(x, call, a, b, c);
        Check.due("run " + run + ": " + call + "(" + a + ", " + b + ", " + c + ")", got, model.answer(call, a, b, c));
    }

    private static int[] arguments(Random random, String call) {
        if (random.nextInt(12) == 0) {
            return new int[] {edge(random), edge(random), edge(random)};
        }
        int clock = random.nextInt(5);
        switch (call) {
            case "clock":
                return new int[] {random.nextInt(3), 1 + random.nextInt(60), 1 + random.nextInt(random.nextInt(500) + 1)};
            case "lead": return new int[] {clock, clock + random.nextInt(5 - clock), 0};
            case "pour": case "why": case "hour": return new int[] {clock, random.nextInt(3), 0};
            case "wax": return new int[] {clock, 1 + random.nextInt(20), 0};
            case "pitch": return new int[] {clock, 1 + random.nextInt(200), 0};
            case "ticks": return new int[] {1 + random.nextInt(1 + random.nextInt(random.nextInt(10) == 0 ? 999 : 40)), 0, 0};
            case "set": return setting(random);
            case "keep": case "back": return new int[] {random.nextInt(2), 0, 0};
            case "clockOf": return new int[] {clock, random.nextInt(12), 0};
            case "water": return new int[] {random.nextInt(10), 0, 0};
            case "noon": return new int[] {random.nextInt(5), clock, 0};
            case "bestWax": return new int[] {clock, random.nextInt(2), 0};
            case "count": return new int[] {random.nextInt(26), 0, 0};
            case "fault": return new int[] {random.nextInt(3), 0, 0};
            default: return new int[] {clock, 0, 0};
        }
    }

    private static int edge(Random random) {
        return EDGES[random.nextInt(EDGES.length)];
    }

    private static int[] setting(Random random) {
        int[] least = {500, 20, 50, 1, 0, 0};
        int[] most = {5000, 900, 5000, 30, 12, 1};
        int what = random.nextInt(6);
        int span = most[what] - least[what] + 1;
        return new int[] {what, least[what] + random.nextInt(1 + random.nextInt(span)), 0};
    }

    /** Most often an order that is well formed. */
    private static String order(Random random) {
        String[] orders = {"c" + random.nextInt(3) + "," + (1 + random.nextInt(60)) + "," + (1 + random.nextInt(500)) + ";",
            "p" + random.nextInt(5) + "," + random.nextInt(3) + ";", "t0" + (1 + random.nextInt(50)) + ";",
            "x" + random.nextInt(4) + ";", "w" + random.nextInt(4) + "," + (1 + random.nextInt(9)) + ";",
            "l" + random.nextInt(2) + "," + (1 + random.nextInt(4)) + ";"};
        String order = orders[random.nextInt(orders.length)];
        if (random.nextInt(8) == 0) {
            int place = random.nextInt(order.length());
            String sign = random.nextBoolean() ? "" : String.valueOf(",;0c tq".charAt(random.nextInt(7)));
            order = order.substring(0, place) + sign + order.substring(place + random.nextInt(2));
        }
        return order;
    }

    private static int answer(LeakingClocks x, String call, int a, int b, int c) {
        switch (call) {
            case "clock": return x.clock(a, b, c);
            case "lead": return x.lead(a, b);
            case "pour": return x.pour(a, b);
            case "wax": return x.wax(a, b);
            case "pitch": return x.pitch(a, b);
            case "trueUp": return x.trueUp(a);
            case "ticks": return x.ticks(a);
            case "set": return x.set(a, b);
            case "keep": return x.keep(a);
            case "back": return x.back(a);
            case "clockOf": return x.clockOf(a, b);
            case "hour": return x.hour(a, b);
            case "water": return x.water(a);
            case "noon": return x.noon(a, b);
            case "why": return x.why(a, b);
            case "emptyIn": return x.emptyIn(a);
            case "noonError": return x.noonError(a);
            case "bestWax": return x.bestWax(a, b);
            case "worst": return x.worst(a);
            case "mean": return x.mean();
            case "count": return x.count(a);
            case "undo": return x.undo();
            case "type": return x.type(a);
            case "clearText": return x.clearText();
            case "fault": return x.fault(a);
            case "play": return x.play();
            default: throw new IllegalArgumentException(call);
        }
    }
}
