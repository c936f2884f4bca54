import java.util.ArrayDeque;
import java.util.ArrayList;
import java.util.Arrays;
import java.util.HashMap;
import java.util.List;
import java.util.Map;
import java.util.regex.Matcher;
import java.util.regex.Pattern;

/**
 * The document told a second time, plainly and slowly: a state is a map from names to numbers, that is copied whole.
 * It answers a call by its name and arguments.
 */
final class Model {
    private static final int[] JUGS = {50, 200, 700};
    private static final int[][] RANGES = {{500, 5000}, {20, 900}, {50, 5000}, {1, 30}, {0, 12}, {0, 1}};
    private static final Pattern ORDER =
        Pattern.compile("(c)N,N,N;|(p)N,N;|(t)N;|(x)N;|(w)N,N;|(l)N,N;".replace("N", "([0-9]{1,3})"));

    private Map<String, Integer> state = new HashMap<>();
    private List<int[]> book = new ArrayList<>();
    private final ArrayDeque<Model> history = new ArrayDeque<>();
    private final Model[] images = new Model[2];
    private String text = "";

    Model() {
        int[] first = {2000, 240, 400, 20, 1, 0};
        for (int k = 0; k < 6; k++) {
            put("setting" + k, first[k]);
        }
        put("cistern", 20000);
    }

    int answer(String call, int a, int b, int c) {
        switch (call) {
            case "keep":
                if (a < 0 || a > 1) {
                    return Check.INVALID;
                }
                images[a] = copy();
                return get("clocks");
            case "undo":
                if (history.isEmpty()) {
                    return Check.IMPOSSIBLE;
                }
                take(history.removeLast());
                return history.size();
            case "type":
                if (a < 32 || a > 126) {
                    return Check.INVALID;
                }
                if (text.length() == 60) {
                    return Check.LIMIT;
                }
                text += (char) a;
                return text.length();
            case "clearText":
                int length = text.length();
                text = "";
                return length;
            case "fault":
                if (a < 0 || a > 2) {
                    return Check.INVALID;
                }
                int[] fault = new int[3];
                copy().orders(text, fault);
                return fault[1] == 0 ? Check.MISSING : fault[a];
            case "clock": case "lead": case "pour": case "wax": case "pitch": case "trueUp": case "ticks": case "set":
            case "back": case "play":
                return recorded(call, a, b, c);
            default:
                return asked(call, a, b);
        }
    }

    // ---- states

    private int get(String name) {
        return state.getOrDefault(name, 0);
    }

    private int of(String name, int clock) {
        return get(name + clock);
    }

    private void put(String name, int value) {
        state.put(name, value);
    }

    private void add(String name, int value) {
        put(name, get(name) + value);
    }

    private void add(String name, int clock, int value) {
        add(name + clock, value);
    }

    private Model copy() {
        Model m = new Model();
        m.take(this);
        return m;
    }

    private void take(Model other) {
        state = new HashMap<>(other.state);
        book = new ArrayList<>(other.book);
    }

    private static boolean error(int answer) {
        return answer >= Check.MISSING && answer <= Check.INVALID;
    }

    private int recorded(String call, int a, int b, int c) {
        Model before = copy();
        int answer;
        if (call.equals("back")) {
            if (a < 0 || a > 1) {
                return Check.INVALID;
            }
            if (images[a] == null) {
                return Check.IMPOSSIBLE;
            }
            take(images[a]);
            answer = get("clocks");
        } else if (call.equals("play")) {
            int[] fault = new int[3];
            answer = orders(text, fault);
            if (fault[1] != 0) {
                take(before);
                return Check.IMPOSSIBLE;
            }
        } else {
            answer = change(call, a, b, c);
            if (error(answer)) {
                return answer;
            }
        }
        history.addLast(before);
        if (history.size() > 4) {
            history.removeFirst();
        }
        return answer;
    }

    // ---- orders

    private int orders(String rest, int[] fault) {
        int done = 0;
        int place = 0;
        while (place < rest.length()) {
            Matcher m = ORDER.matcher(rest.substring(place));
            if (!m.lookingAt()) {
                fault[0] = place;
                fault[1] = 1;
                fault[2] = breaksOff(rest.substring(place));
                return done;
            }
            List<String> parts = new ArrayList<>();
            for (int k = 1; k <= m.groupCount(); k++) {
                if (m.group(k) != null) {
                    parts.add(m.group(k));
                }
            }
            int[] n = new int[3];
            for (int k = 1; k < parts.size(); k++) {
                n[k - 1] = Integer.parseInt(parts.get(k));
            }
            String call = Map.of("c", "clock", "p", "pour", "t", "ticks", "x", "trueUp", "w", "wax", "l", "lead")
                .get(parts.get(0));
            int answer = change(call, n[0], n[1], n[2]);
            if (error(answer)) {
                fault[0] = place;
                fault[1] = 2;
                fault[2] = answer;
                return done;
            }
            done++;
            place += m.end();
        }
        return done;
    }

    /** The length of the longest beginning that could still become an order. */
    private static int breaksOff(String order) {
        int longest = 0;
        for (int k = 1; k <= order.length(); k++) {
            Matcher m = ORDER.matcher(order.substring(0, k));
            if (!m.matches() && m.hitEnd()) {
                longest = k;
            }
        }
        return longest;
    }

    // ---- changes

    private boolean isClock(int clock) {
        return clock >= 0 && clock < get("clocks");
    }

    private int change(String call, int a, int b, int c) {
        int clocks = get("clocks");
        switch (call) {
            case "clock":
                if (a < 0 || a > 2 || b < 1 || b > 60 || c < 1 || c > 500) {
                    return Check.INVALID;
                }
                if (clocks == 5) {
                    return Check.LIMIT;
                }
                put("kind" + clocks, a);
                put("width" + clocks, b);
                put("pitch" + clocks, c);
                put("led" + clocks, clocks);
                put("truedHour" + clocks, trueHour());
                put("clocks", clocks + 1);
                return clocks;
            case "lead":
                if (!isClock(a) || !isClock(b) || b < a) {
                    return Check.INVALID;
                }
                if (of("kind", a) == 1) {
                    return Check.IMPOSSIBLE;
                }
                int led = of("led", a);
                put("led" + a, b);
                return led;
            case "pour":
                if (!isClock(a) || b < 0 || b > 2) {
                    return Check.INVALID;
                }
                if (why(a, b) != 0) {
                    return Check.IMPOSSIBLE;
                }
                add("cistern", -JUGS[b]);
                add("drawn", JUGS[b]);
                add("jugs", 1);
                add("poured", a, JUGS[b]);
                return into("upper", a, JUGS[b]);
            case "wax":
                if (!isClock(a) || b < 1 || b > 59) {
                    return Check.INVALID;
                }
                if (of("width", a) <= b) {
                    return Check.IMPOSSIBLE;
                }
                add("width", a, -b);
                return of("width", a);
            case "pitch":
                if (!isClock(a) || b < 1 || b > 500) {
                    return Check.INVALID;
                }
                int pitch = of("pitch", a);
                put("pitch" + a, b);
                makeTrue(a);
                return pitch;
            case "trueUp":
                if (!isClock(a)) {
                    return Check.INVALID;
                }
                int error = error(a, 0);
                makeTrue(a);
                return error + 10000;
            case "ticks":
                if (a < 1 || a > 999) {
                    return Check.INVALID;
                }
                if (get("now") > 99999 - a) {
                    return Check.LIMIT;
                }
                int dripped = get("dripped");
                for (int k = 0; k < a; k++) {
                    tick();
                }
                return get("dripped") - dripped;
            default:
                if (a < 0 || a > 5 || b < RANGES[a][0] || b > RANGES[a][1]) {
                    return Check.INVALID;
                }
                int was = of("setting", a);
                put("setting" + a, b);
                return was;
        }
    }

    private int why(int clock, int jug) {
        if (JUGS[jug] > get("cistern")) {
            return 1;
        }
        return of("upper", clock) >= get("setting0") ? 2 : 0;
    }

    /** Lets drops into a vessel drop by drop; answers how many run over. */
    private int into(String vessel, int clock, int drops) {
        int over = 0;
        for (int k = 0; k < drops; k++) {
            if (of(vessel, clock) < get("setting0")) {
                add(vessel, clock, 1);
            } else {
                over++;
            }
        }
        if (vessel.equals("upper")) {
            add("came", drops - over);
        }
        add("floor", over);
        return over;
    }

    private void goOn(int clock, int drops) {
        if (of("led", clock) == clock) {
            add("wasted", drops);
        } else {
            into("upper", of("led", clock), drops);
        }
    }

    private void tick() {
        for (int k = 0; k < get("clocks"); k++) {
            int drops = wouldDrip(k);
            add("upper", k, -drops);
            add("through", k, drops);
            add("left", k, drops);
            add("dripped", drops);
            if (of("kind", k) == 0) {
                goOn(k, drops);
            } else if (of("kind", k) == 1) {
                into("lower", k, drops);
            } else {
                add("lower", k, drops);
                int let = of("lower", k);
                if (let >= get("setting1")) {
                    put("lower" + k, 0);
                    add("strokes", k, 1);
                    add("strokeDrops", k, get("setting1"));
                    add("let", let);
                    goOn(k, let);
                }
            }
        }
        for (int k = 0; k < get("clocks"); k++) {
            while (of("left", k) >= get("setting2")) {
                add("left", k, -get("setting2"));
                if (of("width", k) < 60) {
                    add("width", k, 1);
                    add("wider", k, 1);
                }
            }
        }
        add("now", 1);
        if (get("now") % get("setting3") == 0 && trueHour() % 12 == 0) {
            noon();
        }
    }

    private void noon() {
        int[] errors = new int[get("clocks")];
        for (int k = 0; k < errors.length; k++) {
            errors[k] = error(k, 0);
        }
        book.add(0, errors);
        if (book.size() > 4) {
            book.remove(4);
        }
        add("noons", 1);
        for (int k = 0; k < errors.length; k++) {
            if (isOff(errors[k])) {
                add("off", 1);
                if (get("setting5") == 1) {
                    makeTrue(k);
                }
            }
        }
    }

    private void makeTrue(int clock) {
        put("truedHour" + clock, trueHour());
        put("truedDrops" + clock, counted(clock));
        add("trued", clock, 1);
    }

    // ---- figures

    private int wouldDrip(int clock) {
        int drops = of("width", clock) + of("width", clock) * of("upper", clock) / 1000;
        return drops < of("upper", clock) ? drops : of("upper", clock);
    }

    private int counted(int clock) {
        int[] drops = {-of("upper", clock), of("lower", clock), of("strokeDrops", clock) + of("lower", clock)};
        return drops[of("kind", clock)];
    }

    private int trueHour() {
        return get("now") / get("setting3");
    }

    private int told(int clock) {
        double hours = (double) (counted(clock) - of("truedDrops", clock)) / of("pitch", clock);
        return of("truedHour", clock) + (int) Math.floor(hours);
    }

    private int error(int clock, int later) {
        return told(clock) - (get("now") + later) / get("setting3");
    }

    private boolean isOff(int error) {
        return error > get("setting4") || error < -get("setting4");
    }

    private int untilNoon() {
        int later = 1;
        while ((get("now") + later) % (12 * get("setting3")) != 0) {
            later++;
        }
        return later;
    }

    private int noonErrorWith(int clock, int wax) {
        Model m = copy();
        m.add("width", clock, -wax);
        m.put("setting5", 0);
        int many = untilNoon();
        for (int k = 0; k < many; k++) {
            m.tick();
        }
        return m.error(clock, 0);
    }

    private int sum(String name) {
        int sum = 0;
        for (int k = 0; k < 5; k++) {
            sum += of(name, k);
        }
        return sum;
    }

    // ---- asking

    private int asked(String call, int a, int b) {
        switch (call) {
            case "water": return water(a);
            case "count": return count(a);
            case "noon":
                if (a < 0 || b < 0) {
                    return Check.INVALID;
                }
                return a < book.size() && b < book.get(a).length ? book.get(a)[b] + 10000 : Check.MISSING;
            case "worst":
                if (a < 0) {
                    return Check.INVALID;
                }
                List<Integer> order = new ArrayList<>();
                for (int k = 0; k < get("clocks"); k++) {
                    order.add(k);
                }
                order.sort((m, n) -> Math.abs(error(n, 0)) - Math.abs(error(m, 0)));
                return a < order.size() ? order.get(a) : Check.MISSING;
            case "mean":
                float errors = 0;
                for (int k = 0; k < get("clocks"); k++) {
                    errors += Math.abs(error(k, 0));
                }
                return get("clocks") == 0 ? Check.MISSING : Float.floatToIntBits(errors / (float) get("clocks"));
            default:
                return isClock(a) ? askedOf(call, a, b) : Check.INVALID;
        }
    }

    private int askedOf(String call, int a, int b) {
        switch (call) {
            case "clockOf":
                String[] names = {"kind", "upper", "lower", "width", "pitch", "through", "", "strokes", "led", "poured",
                    "trued", "wider"};
                if (b < 0 || b > 11) {
                    return Check.INVALID;
                }
                if (b == 2 && of("kind", a) == 0 || b == 7 && of("kind", a) != 2 || b == 8 && of("led", a) == a) {
                    return Check.MISSING;
                }
                return b == 6 ? wouldDrip(a) : of(names[b], a);
            case "hour":
                int[] hours = {told(a) + 10000, error(a, 0) + 10000, trueHour()};
                return b < 0 || b > 2 ? Check.INVALID : hours[b];
            case "why":
                return b < 0 || b > 2 ? Check.INVALID : why(a, b);
            case "emptyIn":
                Model m = copy();
                for (int k = 0; k <= 1000; k++) {
                    if (m.of("upper", a) == 0) {
                        return k;
                    }
                    m.tick();
                }
                return Check.MISSING;
            case "noonError":
                return noonErrorWith(a, 0) + 10000;
            default:
                return bestWax(a, b);
        }
    }

    private int bestWax(int clock, int what) {
        if (what < 0 || what > 1) {
            return Check.INVALID;
        }
        int[] errors = new int[of("width", clock)];
        int least = Integer.MAX_VALUE;
        for (int wax = 0; wax < errors.length; wax++) {
            errors[wax] = noonErrorWith(clock, wax);
            least = Math.min(least, Math.abs(errors[wax]));
        }
        int best = 0;
        while (Math.abs(errors[best]) != least) {
            best++;
        }
        return what == 0 ? best : errors[best] + 10000;
    }

    private int water(int what) {
        int[] drops = {get("cistern"), sum("upper"), sum("lower"), get("wasted"), get("floor"), 0, get("drawn"),
            get("dripped"), get("came") - sum("upper"), get("let")};
        drops[5] = Arrays.stream(drops, 0, 5).sum();
        return what < 0 || what > 9 ? Check.INVALID : drops[what];
    }

    private int count(int what) {
        int off = 0;
        int empty = 0;
        for (int k = 0; k < get("clocks"); k++) {
            off += isOff(error(k, 0)) ? 1 << k : 0;
            empty += of("upper", k) == 0 ? 1 << k : 0;
        }
        if (what >= 20 && what <= 25) {
            return of("setting", what - 20);
        }
        int[] counts = {get("now"), get("clocks"), off, empty, get("noons"), get("off"), sum("trued"), sum("strokes"),
            untilNoon(), get("jugs"), book.size(), history.size(), text.length()};
        return what < 0 || what > 12 ? Check.INVALID : counts[what];
    }
}
