/** Water clocks whose holes wear wide as they run, and how they are trued. */
public final class LeakingClocks {
    public static final int INVALID_ARGUMENT = -1000001;
    public static final int NOT_POSSIBLE = -1000002;
    public static final int LIMIT_REACHED = -1000003;
    public static final int NOT_FOUND = -1000004;

    private static final int SINKING = 0;
    private static final int RISING = 1;
    private static final int SIPHON = 2;

    // What clockOf can be asked for, as far as it is asked for elsewhere, too.
    private static final int UPPER = 1;
    private static final int LOWER = 2;
    private static final int STROKES = 7;
    private static final int LED = 8;
    private static final int TRUED = 10;
    private static final int LAST_FIGURE = 11;

    private static final int[] LEAST_SETTINGS = {500, 20, 50, 1, 0, 0};
    private static final int[] MOST_SETTINGS = {5000, 900, 5000, 30, 12, 1};
    private static final int[] JUGS = {50, 200, 700};

    private static final int MOST_CLOCKS = 5;
    private static final int MOST_WIDTH = 60;
    private static final int MOST_PITCH = 500;
    private static final int MOST_TICKS = 999;
    private static final int LAST_TICK = 99999;
    private static final int FULL_CISTERN = 20000;
    private static final int HOURS_OF_NOON = 12;
    private static final int NOONS_IN_BOOK = 4;
    private static final int MOST_STATES = 4;
    private static final int IMAGES = 2;
    private static final int TEXT_LENGTH = 60;
    private static final int NUMBERS_OF_ORDER = 3;
    private static final int MOST_DIGITS = 3;
    private static final int EMPTY_WITHIN = 1000;
    // Errors and hours may be below 0; with this they are told clear of the error codes.
    private static final int ZERO = 10000;

    private final State present;
    private final State trial;
    private final State[] history;
    private final State[] images;
    private final boolean[] kept;
    private final Text text;
    // A row that is free to take what there was before a change; it changes places with rows of the history.
    private State before;
    private int states;

    public LeakingClocks() {
        present = new State();
        trial = new State();
        before = new State();
        history = new State[MOST_STATES];
        for (int k = 0; k < history.length; k++) {
            history[k] = new State();
        }
        images = new State[IMAGES];
        for (int k = 0; k < images.length; k++) {
            images[k] = new State();
        }
        kept = new boolean[IMAGES];
        text = new Text();
    }

    // ---- clocks

    public int clock(int kind, int width, int pitch) {
        before.copyFrom(present);
        return changed(present.addClock(kind, width, pitch));
    }

    public int lead(int clock, int to) {
        before.copyFrom(present);
        return changed(present.leadOn(clock, to));
    }

    public int pour(int clock, int jug) {
        before.copyFrom(present);
        return changed(present.pourJug(clock, jug));
    }

    public int wax(int clock, int wax) {
        before.copyFrom(present);
        return changed(present.narrow(clock, wax));
    }

    public int pitch(int clock, int pitch) {
        before.copyFrom(present);
        return changed(present.changePitch(clock, pitch));
    }

    public int trueUp(int clock) {
        before.copyFrom(present);
        return changed(present.trueClock(clock));
    }

    public int ticks(int many) {
        before.copyFrom(present);
        return changed(present.passTicks(many));
    }

    public int set(int what, int value) {
        before.copyFrom(present);
        return changed(present.changeSetting(what, value));
    }

    // ---- images

    public int keep(int image) {
        if (!isImage(image)) {
            return INVALID_ARGUMENT;
        }
        images[image].copyFrom(present);
        kept[image] = true;
        return present.count;
    }

    public int back(int image) {
        if (!isImage(image)) {
            return INVALID_ARGUMENT;
        }
        if (!kept[image]) {
            return NOT_POSSIBLE;
        }
        before.copyFrom(present);
        present.copyFrom(images[image]);
        return changed(present.count);
    }

    // ---- what there is

    public int clockOf(int clock, int what) {
        Clock c = present.clockAt(clock);
        if (c == null || what < 0 || what > LAST_FIGURE) {
            return INVALID_ARGUMENT;
        }
        return c.has(what) ? c.figure(what) : NOT_FOUND;
    }

    public int hour(int clock, int what) {
        Clock c = present.clockAt(clock);
        if (c == null || what < 0 || what > 2) {
            return INVALID_ARGUMENT;
        }
        if (what == 0) {
            return c.hourTold() + ZERO;
        }
        return what == 1 ? present.errorOf(c) + ZERO : present.trueHour();
    }

    public int water(int what) {
        switch (what) {
            case 0: return present.cistern;
            case 1: return present.together(UPPER);
            case 2: return present.together(LOWER);
            case 3: return present.wasted;
            case 4: return present.floor;
            case 5: return present.allWater();
            case 6: return present.drawn;
            case 7: return present.dripped;
            case 8: return present.entered - present.together(UPPER);
            case 9: return present.letGo;
            default: return INVALID_ARGUMENT;
        }
    }

    public int noon(int ago, int clock) {
        if (ago < 0 || clock < 0) {
            return INVALID_ARGUMENT;
        }
        if (!present.book.has(ago, clock)) {
            return NOT_FOUND;
        }
        return present.book.errorAt(ago, clock) + ZERO;
    }

    // ---- what would be

    public int why(int clock, int jug) {
        Clock c = present.clockAt(clock);
        if (c == null || !isJug(jug)) {
            return INVALID_ARGUMENT;
        }
        return present.whyNotPoured(c, jug);
    }

    public int emptyIn(int clock) {
        if (present.clockAt(clock) == null) {
            return INVALID_ARGUMENT;
        }
        trial.copyFrom(present);
        for (int gone = 0; gone <= EMPTY_WITHIN; gone++) {
            if (trial.isEmpty(clock)) {
                return gone;
            }
            trial.drip(clock);
        }
        return NOT_FOUND;
    }

    public int noonError(int clock) {
        if (present.clockAt(clock) == null) {
            return INVALID_ARGUMENT;
        }
        return noonErrorWith(clock, 0) + ZERO;
    }

    public int bestWax(int clock, int what) {
        Clock c = present.clockAt(clock);
        if (c == null || what < 0 || what > 1) {
            return INVALID_ARGUMENT;
        }
        int best = 0;
        int least = noonErrorWith(clock, 0);
        for (int wax = 1; wax < c.width && wax < MOST_WIDTH; wax++) {
            int error = noonErrorWith(clock, wax);
            if (Math.abs(error) < Math.abs(least)) {
                best = wax;
                least = error;
            }
        }
        return what == 0 ? best : least + ZERO;
    }

    public int worst(int rank) {
        if (rank < 0) {
            return INVALID_ARGUMENT;
        }
        for (int k = 0; k < present.count; k++) {
            if (present.rankOf(k) == rank) {
                return k;
            }
        }
        return NOT_FOUND;
    }

    public int mean() {
        if (present.count < 1) {
            return NOT_FOUND;
        }
        return bitsOf((float) present.errorsTogether() / (float) present.count);
    }

    public int count(int what) {
        switch (what) {
            case 0: return present.now;
            case 1: return present.count;
            case 2: return present.clocksOff();
            case 3: return present.clocksEmpty();
            case 4: return present.book.noons;
            case 5: return present.book.off;
            case 6: return present.together(TRUED);
            case 7: return present.together(STROKES);
            case 8: return present.untilNoon();
            case 9: return present.jugsPoured;
            case 10: return present.book.size();
            case 11: return states;
            case 12: return text.length;
            case 20: case 21: case 22: case 23: case 24: case 25: return present.settings.valueOf(what - 20);
            default: return INVALID_ARGUMENT;
        }
    }

    public int undo() {
        if (states < 1 || states > history.length) {
            return NOT_POSSIBLE;
        }
        states--;
        present.copyFrom(history[states]);
        return states;
    }

    // ---- texts

    public int type(int character) {
        if (character < 32 || character > 126) {
            return INVALID_ARGUMENT;
        }
        return text.append((char) character);
    }

    public int clearText() {
        int length = text.length;
        text.length = 0;
        return length;
    }

    public int fault(int what) {
        if (what < 0 || what > 2) {
            return INVALID_ARGUMENT;
        }
        tryOrders();
        if (text.reason == 0) {
            return NOT_FOUND;
        }
        if (what == 0) {
            return text.start;
        }
        return what == 1 ? text.reason : text.cause;
    }

    public int play() {
        int orders = tryOrders();
        if (text.reason != 0) {
            return NOT_POSSIBLE;
        }
        before.copyFrom(present);
        present.copyFrom(trial);
        return changed(orders);
    }

    // ---- what they share

    /** Records what there was before a change, unless the change was refused; answers what the change answered. */
    private int changed(int answer) {
        if (isErrorCode(answer)) {
            return answer;
        }
        if (states >= history.length) {
            dropOldestState();
        }
        if (states >= 0 && states < history.length) {
            State free = history[states];
            history[states] = before;
            before = free;
            states++;
        }
        return answer;
    }

    /** Takes the row of the oldest state behind the others, where it is free for another one. */
    private void dropOldestState() {
        for (int k = 1; k < history.length; k++) {
            State oldest = history[k - 1];
            history[k - 1] = history[k];
            history[k] = oldest;
        }
        states = history.length - 1;
    }

    /** Does the orders of the text on the trial, up to its fault, which the text tells then; answers how many it did. */
    private int tryOrders() {
        trial.copyFrom(present);
        text.rewind();
        int orders = 0;
        while (orders < TEXT_LENGTH && text.readOrder()) {
            int first = text.number(0);
            int second = text.number(1);
            int answer;
            switch (text.letter) {
                case 'c': answer = trial.addClock(first, second, text.number(2)); break;
                case 'p': answer = trial.pourJug(first, second); break;
                case 't': answer = trial.passTicks(first); break;
                case 'x': answer = trial.trueClock(first); break;
                case 'w': answer = trial.narrow(first, second); break;
                default: answer = trial.leadOn(first, second);
            }
            if (isErrorCode(answer)) {
                text.tellFault(2, answer);
                return orders;
            }
            orders++;
        }
        return orders;
    }

    /** The error of a clock at the next noon if its hole were made narrower by some wax now. */
    private int noonErrorWith(int clock, int wax) {
        trial.copyFrom(present);
        Clock c = trial.clockAt(clock);
        if (c == null) {
            return 0;
        }
        c.width -= wax;
        int many = trial.untilNoon();
        for (int k = 0; k < many; k++) {
            // After a tick without a drop no vessel up to this clock changes any more.
            if (trial.drip(clock) == 0) {
                break;
            }
        }
        trial.now += many;
        return trial.errorOf(c);
    }

    private static boolean isErrorCode(int answer) {
        return answer <= INVALID_ARGUMENT && answer >= NOT_FOUND;
    }

    private boolean isImage(int image) {
        return image >= 0 && image < images.length && image < kept.length;
    }

    private static boolean isJug(int jug) {
        return jug >= 0 && jug < JUGS.length;
    }

    /** An element of a row; 0 beyond its ends. */
    private static int element(int[] row, int index) {
        return index >= 0 && index < row.length ? row[index] : 0;
    }

    private static void put(int[] row, int index, int value) {
        if (index >= 0 && index < row.length) {
            row[index] = value;
        }
    }

    private static void copy(int[] from, int[] to) {
        for (int k = 0; k < from.length && k < to.length; k++) {
            to[k] = from[k];
        }
    }

    /** Divides, rounded down; no divisor here is ever below 1. */
    private static int quotient(int number, int divisor) {
        return divisor < 1 ? 0 : Math.floorDiv(number, divisor);
    }

    /** The bits of a float that is 0 or more; halving and doubling it loses none of them. */
    private static int bitsOf(float value) {
        if (value <= 0.0f) {
            return 0;
        }
        float part = value;
        int exponent = 0;
        while (part >= 2.0f && exponent < 127) {
            part = part / 2.0f;
            exponent++;
        }
        while (part < 1.0f && exponent > -126) {
            part = part * 2.0f;
            exponent--;
        }
        return ((exponent + 127) << 23) + (int) ((part - 1.0f) * 8388608.0f);
    }

    /** A clock: its vessels, its hole, and what is known of it so far. */
    private static final class Clock {
        final int number;
        int kind;
        int width;
        int pitch;
        // The clock itself if it is led to none.
        int led;
        int upper;
        int lower;
        int through;
        // Drops that went through and have not made the hole wider yet.
        int unused;
        int widened;
        int strokes;
        // What the strokes count for, each by setting 1 as it was then.
        int strokeDrops;
        int poured;
        int trued;
        int truedHour;
        int truedDrops;

        Clock(int number) {
            this.number = number;
        }

        void copyFrom(Clock other) {
            kind = other.kind;
            width = other.width;
            pitch = other.pitch;
            led = other.led;
            upper = other.upper;
            lower = other.lower;
            through = other.through;
            unused = other.unused;
            widened = other.widened;
            strokes = other.strokes;
            strokeDrops = other.strokeDrops;
            poured = other.poured;
            trued = other.trued;
            truedHour = other.truedHour;
            truedDrops = other.truedDrops;
        }

        /** Makes it a new clock; all else is 0 in the row of one that has not come, as states are copied whole. */
        void begin(int newKind, int newWidth, int newPitch, int hour) {
            kind = newKind;
            width = newWidth;
            pitch = newPitch;
            led = number;
            truedHour = hour;
        }

        /** Whether there is a figure of it, by the numbers of clockOf. */
        boolean has(int what) {
            switch (what) {
                case LOWER: return kind != SINKING;
                case STROKES: return kind == SIPHON;
                case LED: return led != number;
                default: return what >= 0 && what <= LAST_FIGURE;
            }
        }

        int figure(int what) {
            switch (what) {
                case 0: return kind;
                case UPPER: return upper;
                case LOWER: return lower;
                case 3: return width;
                case 4: return pitch;
                case 5: return through;
                case 6: return nextDrip();
                case STROKES: return strokes;
                case LED: return led;
                case 9: return poured;
                case TRUED: return trued;
                default: return widened;
            }
        }

        /** The drops that it counts. */
        int dropsCounted() {
            if (kind == SINKING) {
                return -upper;
            }
            return kind == RISING ? lower : strokeDrops + lower;
        }

        int hourTold() {
            return truedHour + quotient(dropsCounted() - truedDrops, pitch);
        }

        void trueTo(int hour) {
            truedHour = hour;
            truedDrops = dropsCounted();
            trued++;
        }

        /** The drops that it would drip in a tick now. */
        int nextDrip() {
            return Math.min(upper, width + width * upper / 1000);
        }

        /** Lets the next drops through the hole; answers how many. */
        int letThrough() {
            int drops = nextDrip();
            upper -= drops;
            through += drops;
            unused += drops;
            return drops;
        }

        /** Makes the hole wider by the drops that went through, each so many of them used up. */
        void wearHole(int each) {
            int steps = quotient(unused, each);
            int wider = Math.min(steps, MOST_WIDTH - width);
            unused -= steps * each;
            width += wider;
            widened += wider;
        }
    }

    /** The errors at the latest noons, a row of clocks for each, in turn. */
    private static final class Book {
        final int[] clocksThen = new int[NOONS_IN_BOOK];
        final int[] errors = new int[NOONS_IN_BOOK * MOST_CLOCKS];
        int noons;
        // Errors that were not borne, at all noons so far.
        int off;

        void copyFrom(Book other) {
            copy(other.clocksThen, clocksThen);
            copy(other.errors, errors);
            noons = other.noons;
            off = other.off;
        }

        /** Begins a noon, in place of the oldest one if the book is full. */
        void open(int clocks) {
            noons++;
            put(clocksThen, place(0), clocks);
        }

        /** Writes an error at the latest noon. */
        void write(int clock, int error) {
            put(errors, place(0) * MOST_CLOCKS + clock, error);
        }

        int size() {
            return Math.min(noons, NOONS_IN_BOOK);
        }

        boolean has(int ago, int clock) {
            return ago < size() && clock < element(clocksThen, place(ago));
        }

        int errorAt(int ago, int clock) {
            return element(errors, place(ago) * MOST_CLOCKS + clock);
        }

        private int place(int ago) {
            return Math.floorMod(noons - 1 - ago, NOONS_IN_BOOK);
        }
    }

    /** The settings, by name and by number. */
    private static final class Settings {
        int vessel = 2000;
        int siphon = 240;
        int wear = 400;
        int hour = 20;
        int borne = 1;
        int truing = 0;

        void copyFrom(Settings other) {
            vessel = other.vessel;
            siphon = other.siphon;
            wear = other.wear;
            hour = other.hour;
            borne = other.borne;
            truing = other.truing;
        }

        static boolean isInRange(int what, int value) {
            if (what < 0 || what >= LEAST_SETTINGS.length) {
                return false;
            }
            return value >= element(LEAST_SETTINGS, what) && value <= element(MOST_SETTINGS, what);
        }

        int valueOf(int what) {
            switch (what) {
                case 0: return vessel;
                case 1: return siphon;
                case 2: return wear;
                case 3: return hour;
                case 4: return borne;
                default: return truing;
            }
        }

        void change(int what, int value) {
            switch (what) {
                case 0: vessel = value; break;
                case 1: siphon = value; break;
                case 2: wear = value; break;
                case 3: hour = value; break;
                case 4: borne = value; break;
                default: truing = value;
            }
        }
    }

    /** All that an image holds and an undo restores: clocks, settings, water, time and the book. */
    private static final class State {
        final Clock[] clocks = new Clock[MOST_CLOCKS];
        final Settings settings = new Settings();
        final Book book = new Book();
        int count;
        int now;
        int cistern = FULL_CISTERN;
        int wasted;
        int floor;
        int drawn;
        int jugsPoured;
        int dripped;
        // Drops that came into upper vessels and did not run over.
        int entered;
        int letGo;

        State() {
            for (int k = 0; k < clocks.length; k++) {
                clocks[k] = new Clock(k);
            }
        }

        void copyFrom(State other) {
            for (int k = 0; k < clocks.length && k < other.clocks.length; k++) {
                clocks[k].copyFrom(other.clocks[k]);
            }
            settings.copyFrom(other.settings);
            book.copyFrom(other.book);
            count = other.count;
            now = other.now;
            cistern = other.cistern;
            wasted = other.wasted;
            floor = other.floor;
            drawn = other.drawn;
            jugsPoured = other.jugsPoured;
            dripped = other.dripped;
            entered = other.entered;
            letGo = other.letGo;
        }

        /** A clock by its number; null if there is none. */
        Clock clockAt(int number) {
            return number >= 0 && number < count && number < clocks.length ? clocks[number] : null;
        }

        // ---- changes: one that is refused answers an error code and changes nothing

        int addClock(int kind, int width, int pitch) {
            if (kind < SINKING || kind > SIPHON || width < 1 || width > MOST_WIDTH || pitch < 1 || pitch > MOST_PITCH) {
                return INVALID_ARGUMENT;
            }
            if (count < 0 || count >= clocks.length) {
                return LIMIT_REACHED;
            }
            clocks[count].begin(kind, width, pitch, trueHour());
            count++;
            return count - 1;
        }

        int leadOn(int clock, int to) {
            Clock c = clockAt(clock);
            if (c == null || clockAt(to) == null || to < clock) {
                return INVALID_ARGUMENT;
            }
            if (c.kind == RISING) {
                return NOT_POSSIBLE;
            }
            int led = c.led;
            c.led = to;
            return led;
        }

        int pourJug(int clock, int jug) {
            Clock c = clockAt(clock);
            if (c == null || !isJug(jug)) {
                return INVALID_ARGUMENT;
            }
            if (whyNotPoured(c, jug) != 0) {
                return NOT_POSSIBLE;
            }
            int drops = element(JUGS, jug);
            cistern -= drops;
            drawn += drops;
            jugsPoured++;
            c.poured += drops;
            return enterUpper(c, drops);
        }

        int narrow(int clock, int wax) {
            Clock c = clockAt(clock);
            if (c == null || wax < 1 || wax >= MOST_WIDTH) {
                return INVALID_ARGUMENT;
            }
            if (c.width - wax < 1) {
                return NOT_POSSIBLE;
            }
            c.width -= wax;
            return c.width;
        }

        int changePitch(int clock, int pitch) {
            Clock c = clockAt(clock);
            if (c == null || pitch < 1 || pitch > MOST_PITCH) {
                return INVALID_ARGUMENT;
            }
            int previous = c.pitch;
            c.pitch = pitch;
            c.trueTo(trueHour());
            return previous;
        }

        int trueClock(int clock) {
            Clock c = clockAt(clock);
            if (c == null) {
                return INVALID_ARGUMENT;
            }
            int error = errorOf(c);
            c.trueTo(trueHour());
            return error + ZERO;
        }

        int passTicks(int many) {
            if (many < 1 || many > MOST_TICKS) {
                return INVALID_ARGUMENT;
            }
            if (now + many > LAST_TICK) {
                return LIMIT_REACHED;
            }
            int drops = 0;
            for (int k = 0; k < many; k++) {
                drops += drip(count - 1);
                now++;
                if (isNoon()) {
                    noonComes();
                }
            }
            return drops;
        }

        int changeSetting(int what, int value) {
            if (!Settings.isInRange(what, value)) {
                return INVALID_ARGUMENT;
            }
            int previous = settings.valueOf(what);
            settings.change(what, value);
            return previous;
        }

        // ---- water

        /** Lets the clocks up to a last one drip in a tick, as none of them looks at a later one; answers their drops. */
        int drip(int last) {
            int drops = 0;
            for (int k = 0; k <= last && k < count && k < clocks.length; k++) {
                drops += dripOf(clocks[k]);
            }
            return drops;
        }

        /** The hole wears as soon as the clock has dripped, as nothing else in a tick looks at it. */
        private int dripOf(Clock c) {
            int drops = c.letThrough();
            dripped += drops;
            if (c.kind == SINKING) {
                goOn(c, drops);
            } else if (c.kind == RISING) {
                int borne = Math.min(drops, roomAbove(c.lower));
                c.lower += borne;
                floor += drops - borne;
            } else {
                c.lower += drops;
                goOn(c, strokeOf(c));
            }
            c.wearHole(settings.wear);
            return drops;
        }

        /** Empties the lower vessel of a siphon if it is full; answers how many drops that lets go. */
        private int strokeOf(Clock c) {
            if (c.lower < settings.siphon) {
                return 0;
            }
            int drops = c.lower;
            c.lower = 0;
            c.strokes++;
            c.strokeDrops += settings.siphon;
            letGo += drops;
            return drops;
        }

        /** Takes the water of a clock to where it is led. */
        private void goOn(Clock c, int drops) {
            Clock to = c.led == c.number ? null : clockAt(c.led);
            if (to == null) {
                wasted += drops;
            } else {
                enterUpper(to, drops);
            }
        }

        /** Lets drops into an upper vessel; answers how many run over. */
        private int enterUpper(Clock c, int drops) {
            int borne = Math.min(drops, roomAbove(c.upper));
            c.upper += borne;
            entered += borne;
            floor += drops - borne;
            return drops - borne;
        }

        /** How many drops more a vessel bears; one that was filled when vessels bore more has no room. */
        private int roomAbove(int drops) {
            return drops < settings.vessel ? settings.vessel - drops : 0;
        }

        /** The reason why a jug is not poured, 0 for none. */
        int whyNotPoured(Clock c, int jug) {
            if (cistern < element(JUGS, jug)) {
                return 1;
            }
            return roomAbove(c.upper) == 0 ? 2 : 0;
        }

        boolean isEmpty(int clock) {
            Clock c = clockAt(clock);
            return c != null && c.upper == 0;
        }

        /** A figure of all clocks together, by the numbers of clockOf. */
        int together(int what) {
            int sum = 0;
            for (int k = 0; k < count && k < clocks.length; k++) {
                sum += clocks[k].figure(what);
            }
            return sum;
        }

        int allWater() {
            return cistern + together(UPPER) + together(LOWER) + wasted + floor;
        }

        // ---- hours

        int trueHour() {
            return quotient(now, settings.hour);
        }

        int errorOf(Clock c) {
            return c.hourTold() - trueHour();
        }

        /** The ticks from a noon to the next. */
        private int noonTicks() {
            return HOURS_OF_NOON * settings.hour;
        }

        int untilNoon() {
            int each = noonTicks();
            return each - (now - quotient(now, each) * each);
        }

        private boolean isNoon() {
            return untilNoon() == noonTicks();
        }

        private boolean isOff(int error) {
            return Math.abs(error) > settings.borne;
        }

        private void noonComes() {
            book.open(count);
            for (int k = 0; k < count && k < clocks.length; k++) {
                Clock c = clocks[k];
                int error = errorOf(c);
                book.write(k, error);
                if (isOff(error)) {
                    book.off++;
                    if (settings.truing == 1) {
                        c.trueTo(trueHour());
                    }
                }
            }
        }

        int clocksOff() {
            int off = 0;
            for (int k = 0; k < count && k < clocks.length; k++) {
                if (isOff(errorOf(clocks[k]))) {
                    off |= 1 << k;
                }
            }
            return off;
        }

        int clocksEmpty() {
            int empty = 0;
            for (int k = 0; k < count && k < clocks.length; k++) {
                if (clocks[k].upper == 0) {
                    empty |= 1 << k;
                }
            }
            return empty;
        }

        private int sizeOfError(int clock) {
            Clock c = clockAt(clock);
            return c == null ? 0 : Math.abs(errorOf(c));
        }

        int errorsTogether() {
            int errors = 0;
            for (int k = 0; k < count; k++) {
                errors += sizeOfError(k);
            }
            return errors;
        }

        /** How many clocks come ahead of a clock by their errors. */
        int rankOf(int clock) {
            int own = sizeOfError(clock);
            int ahead = 0;
            for (int k = 0; k < count; k++) {
                int other = sizeOfError(k);
                if (other > own || (other == own && k < clock)) {
                    ahead++;
                }
            }
            return ahead;
        }
    }

    /** The text, and the reading of its orders one by one. */
    private static final class Text {
        final char[] signs = new char[TEXT_LENGTH];
        final int[] numbers = new int[NUMBERS_OF_ORDER];
        int length;
        // Where reading stands, and where the order began that is read.
        int place;
        int start;
        char letter;
        // What is wrong with that order; the reason is 0 if nothing is, and the cause tells nothing then.
        int reason;
        int cause;

        int append(char sign) {
            if (length < 0 || length >= signs.length) {
                return LIMIT_REACHED;
            }
            signs[length] = sign;
            length++;
            return length;
        }

        void rewind() {
            place = 0;
            reason = 0;
        }

        void tellFault(int newReason, int newCause) {
            reason = newReason;
            cause = newCause;
        }

        int number(int index) {
            return element(numbers, index);
        }

        /** Reads an order; false at the end of the text, or if it is not of the form, which is its fault then. */
        boolean readOrder() {
            if (place >= length) {
                return false;
            }
            start = place;
            if (readForm()) {
                return true;
            }
            tellFault(1, place - start);
            return false;
        }

        /** Reads an order up to its end, or to where it breaks off. */
        private boolean readForm() {
            letter = signHere();
            int due = numbersOf(letter);
            if (due == 0) {
                return false;
            }
            place++;
            for (int k = 0; k < due; k++) {
                if (!readNumber(k) || !readSign(k + 1 < due ? ',' : ';')) {
                    return false;
                }
            }
            return true;
        }

        private boolean readNumber(int index) {
            int value = 0;
            int digits = 0;
            while (digits < MOST_DIGITS && isDigit(signHere())) {
                value = value * 10 + (signHere() - '0');
                digits++;
                place++;
            }
            put(numbers, index, value);
            return digits > 0;
        }

        private boolean readSign(char sign) {
            if (signHere() != sign) {
                return false;
            }
            place++;
            return true;
        }

        /** The sign where reading stands; 0, which no text has, at its end. */
        private char signHere() {
            return place >= 0 && place < length && place < signs.length ? signs[place] : 0;
        }

        private static boolean isDigit(char sign) {
            return sign >= '0' && sign <= '9';
        }

        /** How many numbers an order of a letter has; 0 if there is no such order. */
        private static int numbersOf(char sign) {
            switch (sign) {
                case 'c': return 3;
                case 'p': case 'w': case 'l': return 2;
                case 't': case 'x': return 1;
                default: return 0;
            }
        }
    }
}
