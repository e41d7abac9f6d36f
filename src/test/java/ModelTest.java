import java.util.ArrayList;
import java.util.List;
import java.util.Random;

/** Long mixed runs against a second, slow writing-down of the document, by fixed seeds. */
public final class ModelTest {
    private static final int RUNS = 3000;
    // With the reads of all at the end no object has more than 512 calls.
    private static final int CALLS = 360;
    private static final int[] PERIODS = {-1, 0, 1, 1, 2, 3, 65535, 65536};
    private static final int[] MASKS = {-1, 0, 1, 128, 254, 255, 255, 256};
    private static final int[] DELAYS = {-1, 0, 1, 1, 2, 999, 1000, 1001};
    private static final int[] COUNTS = {-1, 0, 1, 999, 1000, 1001, 19999, 20000, 20001};

    private final Random random;
    private final TimerGates x = new TimerGates();
    private final Model model = new Model();
    private final List<String> calls = new ArrayList<>();
    private boolean same = true;

    private ModelTest(int seed) {
        random = new Random(seed);
    }

    public static void main(String[] args) {
        for (int seed = 0; seed < RUNS; seed++) {
            new ModelTest(seed).run();
        }
        Due.finish("ModelTest");
    }

    private void run() {
        for (int call = 0; call < CALLS && same; call++) {
            if (random.nextInt(4) == 0) {
                read(random.nextInt(4), edge(10, 16), edge(4, 9));
            } else {
                change();
            }
        }
        readAll();
    }

    private void compare(String call, int got, int want) {
        calls.add(call);
        if (got != want && same) {
            same = false;
            Due.tell(calls + " answered " + got + ", due is " + want);
        }
    }

    private void compare(String call, boolean got, boolean want) {
        compare(call, got ? 1 : 0, want ? 1 : 0);
    }

    /** Mostly 0 .. size - 1, now and then a little outside. */
    private int edge(int oneIn, int size) {
        return random.nextInt(oneIn) == 0 ? random.nextInt(size + 4) - 2 : random.nextInt(size);
    }

    private int oneOf(int[] row) {
        return row[random.nextInt(row.length)];
    }

    private void change() {
        int t = edge(12, 8);
        int g = edge(12, 4);
        switch (random.nextInt(8)) {
            case 0, 1 -> set(t, edge(8, 2), random.nextInt(9) == 0 ? oneOf(PERIODS) : 1 + random.nextInt(6));
            case 2, 3 -> {
                boolean runs = random.nextInt(5) != 0;
                compare("turn(" + t + ", " + runs + ")", x.turn(t, runs), model.turn(t, runs));
            }
            case 4 -> {
                int mask = random.nextInt(6) == 0 ? oneOf(MASKS) : random.nextInt(256);
                int delay = random.nextInt(6) == 0 ? oneOf(DELAYS) : 1 + random.nextInt(8);
                compare("gate(" + g + ", " + mask + ", " + delay + ")", x.gate(g, mask, delay), model.gate(g, mask, delay));
            }
            case 5 -> {
                int set = random.nextInt(3) == 0 ? oneOf(MASKS) : random.nextInt(256);
                compare("clear(" + set + ")", x.clear(set), model.clear(set));
            }
            case 6 -> {
                int n = count();
                compare("advance(" + n + ")", x.advance(n), model.advance(n));
            }
            default -> {
                int n = count();
                compare("next(" + n + ")", x.next(n), model.next(n));
            }
        }
    }

    private void set(int t, int source, int period) {
        boolean once = random.nextInt(3) == 0;
        String call = "set(" + t + ", " + source + ", " + period + ", " + once + ")";
        compare(call, x.set(t, source, period, once), model.set(t, source, period, once));
    }

    private int count() {
        return random.nextInt(100) == 0 ? oneOf(COUNTS) : random.nextInt(22) - 1;
    }

    private void read(int kind, int a, int what) {
        switch (kind) {
            case 0 -> compare("timer(" + a / 2 + ", " + what + ")", x.timer(a / 2, what), model.timer(a / 2, what));
            case 1 -> compare("gateOf(" + a / 4 + ", " + what + ")", x.gateOf(a / 4, what), model.gateOf(a / 4, what));
            case 2 -> compare("look(" + what + ")", x.look(what), model.look(what));
            default -> compare("served(" + a + ", " + what + ")", x.served(a, what), model.served(a, what));
        }
    }

    private void readAll() {
        for (int t = 0; t < 8; t++) {
            for (int what = 0; what < 9; what++) {
                read(0, 2 * t, what);
            }
        }
        for (int g = 0; g < 4; g++) {
            for (int what = 0; what < 7; what++) {
                read(1, 4 * g, what);
            }
        }
        for (int what = 0; what < 4; what++) {
            read(2, 0, what);
        }
        for (int i = 0; i < 16; i++) {
            for (int what = 0; what < 3; what++) {
                read(3, i, what);
            }
        }
    }

    /** Status is a row of booleans and "rests" and "just served" are marks of their own, unlike in the class. */
    private static final class Model {
        final int[][] timer = new int[8][9];
        final int[][] gate = new int[4][7];
        final boolean[] rests = {true, true, true, true};
        final boolean[] up = new boolean[8];
        final List<int[]> log = new ArrayList<>();
        int now = 0;

        Model() {
            for (int[] t : timer) {
                t[0] = 1;
                t[1] = 1;
            }
            for (int[] g : gate) {
                g[3] = 1;
                g[6] = -1;
            }
        }

        boolean set(int t, int source, int period, boolean once) {
            boolean good = 0 <= t && t <= 7 && 1 <= period && period <= 65535
                && (source == 0 || source == 1) && !(t == 0 && source == 1);
            if (good) {
                timer[t][0] = period;
                timer[t][1] = period;
                timer[t][2] = source;
                timer[t][3] = 0;
                timer[t][4] = once ? 1 : 0;
            }
            return good;
        }

        boolean turn(int t, boolean runs) {
            int want = runs ? 1 : 0;
            if (t < 0 || t > 7 || timer[t][3] == want) {
                return false;
            }
            timer[t][3] = want;
            return true;
        }

        boolean gate(int g, int mask, int delay) {
            if (g < 0 || g > 3 || mask < 0 || mask > 255 || delay < 1 || delay > 1000) {
                return false;
            }
            gate[g][2] = mask;
            gate[g][3] = delay;
            return true;
        }

        int clear(int set) {
            if (set < 0 || set > 255) {
                return -1;
            }
            int cleared = 0;
            for (int t = 0; t < 8; t++) {
                if (up[t] && (set >> t) % 2 == 1) {
                    up[t] = false;
                    timer[t][8]++;
                    cleared += 1 << t;
                }
            }
            return cleared;
        }

        int advance(int n) {
            if (n < 0 || n > 20000) {
                return -1;
            }
            int before = log.size();
            for (int i = 0; i < n; i++) {
                tick();
            }
            return log.size() - before;
        }

        int next(int n) {
            if (n < 0 || n > 20000) {
                return -1;
            }
            int before = log.size();
            int ticks = 0;
            while (ticks < n && log.size() == before) {
                tick();
                ticks++;
            }
            return ticks;
        }

        void tick() {
            now++;
            boolean[] ends = new boolean[8];
            for (int t = 0; t < 8; t++) {
                boolean event = timer[t][2] == 0 ? true : ends[t - 1];
                if (event && timer[t][3] == 1) {
                    timer[t][0]--;
                    ends[t] = timer[t][0] == 0;
                }
                if (ends[t]) {
                    timer[t][0] = timer[t][1];
                    timer[t][3] = timer[t][4] == 1 ? 0 : 1;
                    timer[t][5]++;
                    timer[t][6] += up[t] ? 1 : 0;
                    up[t] = true;
                }
            }
            boolean[] justServed = new boolean[4];
            for (int g = 0; g < 4; g++) {
                if (!rests[g]) {
                    gate[g][1]--;
                    if (gate[g][1] == 0) {
                        justServed[g] = true;
                        serve(g);
                    }
                }
            }
            for (int g = 0; g < 4; g++) {
                if (asked(g) >= 0 && (rests[g] || justServed[g])) {
                    rests[g] = false;
                    gate[g][1] = gate[g][3];
                } else if (justServed[g]) {
                    rests[g] = true;
                }
            }
        }

        void serve(int g) {
            int bit = asked(g);
            if (bit < 0) {
                gate[g][5]++;
                return;
            }
            up[bit] = false;
            timer[bit][7]++;
            gate[g][4]++;
            gate[g][6] = now;
            log.add(new int[] {bit, g, now});
        }

        int asked(int g) {
            for (int t = 0; t < 8; t++) {
                if (up[t] && (gate[g][2] >> t) % 2 == 1) {
                    return t;
                }
            }
            return -1;
        }

        int timer(int t, int what) {
            return t < 0 || t > 7 || what < 0 || what > 8 ? -1 : timer[t][what];
        }

        int gateOf(int g, int what) {
            if (g < 0 || g > 3 || what < 0 || what > 6) {
                return -1;
            }
            if (what == 0) {
                return asked(g) >= 0 ? 1 : 0;
            }
            return gate[g][what];
        }

        int look(int what) {
            return switch (what) {
                case 0 -> status();
                case 1 -> now;
                case 2 -> log.size();
                case 3 -> soonest();
                default -> -1;
            };
        }

        int served(int i, int what) {
            boolean there = 0 <= i && i <= 15 && i < log.size() && 0 <= what && what <= 2;
            return there ? log.get(log.size() - 1 - i)[what] : -1;
        }

        int status() {
            int status = 0;
            for (int t = 7; t >= 0; t--) {
                status = 2 * status + (up[t] ? 1 : 0);
            }
            return status;
        }

        int soonest() {
            int soonest = 0;
            for (int[] t : timer) {
                if (t[3] == 1 && t[2] == 0) {
                    soonest = soonest == 0 ? t[0] : Math.min(soonest, t[0]);
                }
            }
            return soonest;
        }
    }
}
