/**
 * Eight timers, that may count one another's ends, and four gates that serve
 * what has ended, each in its own time.
 */
public final class TimerGates {
    public static final int NONE = -1;

    private static final int TIMERS = 8;
    private static final int GATES = 4;
    private static final int ALL_BITS = 255;
    private static final int MAX_PERIOD = 65535;
    private static final int MAX_DELAY = 1000;
    private static final int MAX_TICKS = 20000;
    private static final int FROM_TICKS = 0;
    private static final int FROM_ENDS = 1;

    private final Timer[] timers = new Timer[TIMERS];
    private final Gate[] gates = new Gate[GATES];
    private final History history = new History();
    private int status = 0;
    private int now = 0;

    public TimerGates() {
        for (int t = 0; t < TIMERS; t++) {
            timers[t] = new Timer();
        }
        for (int g = 0; g < GATES; g++) {
            gates[g] = new Gate();
        }
    }

    public boolean set(int t, int source, int period, boolean once) {
        if (!isTimer(t) || !isSource(t, source) || period < 1 || period > MAX_PERIOD) {
            return false;
        }
        Timer timer = timers[t];
        timer.source = source;
        timer.period = period;
        timer.count = period;
        timer.once = once;
        timer.runs = false;
        return true;
    }

    public boolean turn(int t, boolean runs) {
        if (!isTimer(t) || timers[t].runs == runs) {
            return false;
        }
        timers[t].runs = runs;
        return true;
    }

    public boolean gate(int g, int mask, int delay) {
        if (!isGate(g) || !isBitSet(mask) || delay < 1 || delay > MAX_DELAY) {
            return false;
        }
        gates[g].mask = mask;
        gates[g].delay = delay;
        return true;
    }

    public int clear(int set) {
        if (!isBitSet(set)) {
            return NONE;
        }
        int cleared = status & set;
        for (int t = 0; t < TIMERS; t++) {
            if ((cleared & (1 << t)) != 0) {
                timers[t].timesCleared++;
            }
        }
        status &= ~cleared;
        return cleared;
    }

    public int advance(int n) {
        if (!isTickCount(n)) {
            return NONE;
        }
        int services = 0;
        for (int i = 0; i < n; i++) {
            services += tick();
        }
        return services;
    }

    public int next(int n) {
        if (!isTickCount(n)) {
            return NONE;
        }
        for (int i = 0; i < n; i++) {
            if (tick() > 0) {
                return i + 1;
            }
        }
        return n;
    }

    public int timer(int t, int what) {
        if (!isTimer(t)) {
            return NONE;
        }
        return timers[t].read(what);
    }

    public int gateOf(int g, int what) {
        if (!isGate(g)) {
            return NONE;
        }
        return gates[g].read(what, status);
    }

    public int look(int what) {
        switch (what) {
            case 0:
                return status;
            case 1:
                return now;
            case 2:
                return history.total;
            case 3:
                return ticksToNextEnd();
            default:
                return NONE;
        }
    }

    public int served(int i, int what) {
        return history.read(i, what);
    }

    private static boolean isTimer(int t) {
        return t >= 0 && t < TIMERS;
    }

    private static boolean isGate(int g) {
        return g >= 0 && g < GATES;
    }

    private static boolean isSource(int t, int source) {
        return source == FROM_TICKS || (source == FROM_ENDS && t > 0);
    }

    private static boolean isBitSet(int set) {
        return set >= 0 && set <= ALL_BITS;
    }

    private static boolean isTickCount(int n) {
        return n >= 0 && n <= MAX_TICKS;
    }

    /** One TICK; answers how many BITS were SERVED in it. */
    private int tick() {
        now++;
        tickTimers();
        int services = tickGates();
        wakeGates();
        return services;
    }

    private void tickTimers() {
        boolean endBefore = false;
        for (int t = 0; t < TIMERS; t++) {
            Timer timer = timers[t];
            boolean event = timer.source == FROM_TICKS || endBefore;
            endBefore = event && timer.countDown();
            if (endBefore) {
                raise(t);
            }
        }
    }

    private void raise(int t) {
        int bit = 1 << t;
        if ((status & bit) != 0) {
            timers[t].timesMissed++;
        }
        status |= bit;
    }

    private int tickGates() {
        int services = 0;
        for (int g = 0; g < GATES; g++) {
            if (gates[g].waitEnds() && serve(g)) {
                services++;
            }
        }
        return services;
    }

    /** Answers false if the GATE was IDLE. */
    private boolean serve(int g) {
        Gate gate = gates[g];
        if (!gate.asks(status)) {
            gate.timesIdle++;
            return false;
        }
        int t = leastBit(status & gate.mask);
        status &= ~(1 << t);
        timers[t].timesServed++;
        gate.bitsServed++;
        gate.latest = now;
        history.add(t, g, now);
        return true;
    }

    private static int leastBit(int bits) {
        for (int t = 0; t < TIMERS - 1; t++) {
            if ((bits & (1 << t)) != 0) {
                return t;
            }
        }
        return TIMERS - 1;
    }

    // Apart from tickGates, since a later GATE may take the BIT for which an
    // earlier one would wait. One that has just SERVED has 0 to wait, as
    // one that rests does, so both are treated alike.
    private void wakeGates() {
        for (int g = 0; g < GATES; g++) {
            Gate gate = gates[g];
            if (gate.toWait == 0 && gate.asks(status)) {
                gate.toWait = gate.delay;
            }
        }
    }

    private int ticksToNextEnd() {
        int least = 0;
        for (int t = 0; t < TIMERS; t++) {
            Timer timer = timers[t];
            boolean counts = timer.runs && timer.source == FROM_TICKS;
            if (counts && (least == 0 || timer.count < least)) {
                least = timer.count;
            }
        }
        return least;
    }

    private static final class Timer {
        private int period = 1;
        private int count = 1;
        private int source = FROM_TICKS;
        private boolean once = false;
        private boolean runs = false;
        private int timesEnded = 0;
        private int timesMissed = 0;
        private int timesServed = 0;
        private int timesCleared = 0;

        /** An event of the SOURCE; answers whether the TIMER ENDS by it. */
        private boolean countDown() {
            if (!runs) {
                return false;
            }
            if (count > 1) {
                count--;
                return false;
            }
            count = period;
            timesEnded++;
            if (once) {
                runs = false;
            }
            return true;
        }

        private int read(int what) {
            switch (what) {
                case 0:
                    return count;
                case 1:
                    return period;
                case 2:
                    return source;
                case 3:
                    return runs ? 1 : 0;
                case 4:
                    return once ? 1 : 0;
                case 5:
                    return timesEnded;
                case 6:
                    return timesMissed;
                case 7:
                    return timesServed;
                case 8:
                    return timesCleared;
                default:
                    return NONE;
            }
        }
    }

    private static final class Gate {
        private int mask = 0;
        private int delay = 1;
        // 0 while the GATE rests.
        private int toWait = 0;
        private int bitsServed = 0;
        private int timesIdle = 0;
        private int latest = NONE;

        private boolean asks(int status) {
            return (status & mask) != 0;
        }

        /** One TICK of waiting; answers whether the GATE SERVES now. */
        private boolean waitEnds() {
            if (toWait == 0) {
                return false;
            }
            toWait--;
            return toWait == 0;
        }

        private int read(int what, int status) {
            switch (what) {
                case 0:
                    return asks(status) ? 1 : 0;
                case 1:
                    return toWait;
                case 2:
                    return mask;
                case 3:
                    return delay;
                case 4:
                    return bitsServed;
                case 5:
                    return timesIdle;
                case 6:
                    return latest;
                default:
                    return NONE;
            }
        }
    }

    /** The latest BITS SERVED, in rings that are written over and over. */
    private static final class History {
        private static final int KEPT = 16;

        private final int[] bits = new int[KEPT];
        private final int[] servers = new int[KEPT];
        private final int[] times = new int[KEPT];
        private int total = 0;
        // Held apart from total, so that no index depends on a number that
        // could wrap around.
        private int filled = 0;
        private int place = 0;

        private void add(int bit, int server, int time) {
            bits[place] = bit;
            servers[place] = server;
            times[place] = time;
            place = (place + 1) % KEPT;
            if (filled < KEPT) {
                filled++;
            }
            total++;
        }

        private int read(int i, int what) {
            if (i < 0 || i >= filled) {
                return NONE;
            }
            int at = (place + KEPT - 1 - i) % KEPT;
            switch (what) {
                case 0:
                    return bits[at];
                case 1:
                    return servers[at];
                case 2:
                    return times[at];
                default:
                    return NONE;
            }
        }
    }
}
