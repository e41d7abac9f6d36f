import java.util.ArrayList;
import java.util.List;
import java.util.Random;

/** Long mixed runs against a second, slow writing-down of the document, by fixed seeds. */
public final class ModelTest {
    private static final int RUNS = 400;
    private static final int CALLS = 300;

    public static void main(String[] args) {
        for (int seed = 0; seed < RUNS; seed++) {
            run(new Random(seed));
        }
        Due.finish("ModelTest");
    }

    private static void run(Random r) {
        TimerGates x = new TimerGates();
        Model m = new Model();
        for (int call = 0; call < CALLS; call++) {
            step(r, x, m);
            if (!Due.state(x).equals(m.state())) {
                Due.same("a run by " + m.calls, Due.state(x), m.state());
                return;
            }
        }
    }

    private static void step(Random r, TimerGates x, Model m) {
        int t = r.nextInt(10) == 0 ? r.nextInt(12) - 2 : r.nextInt(8);
        int g = r.nextInt(10) == 0 ? r.nextInt(8) - 2 : r.nextInt(4);
        switch (r.nextInt(8)) {
            case 0, 1 -> {
                int source = r.nextInt(8) == 0 ? r.nextInt(5) - 1 : r.nextInt(2);
                int period = r.nextInt(12) == 0 ? r.nextInt(70000) - 2000 : r.nextInt(7);
                boolean once = r.nextInt(3) == 0;
                m.calls.add("set(" + t + ", " + source + ", " + period + ", " + once + ")");
                Due.due(m.calls.toString(), x.set(t, source, period, once), m.set(t, source, period, once));
            }
            case 2, 3 -> {
                boolean runs = r.nextInt(5) != 0;
                m.calls.add("turn(" + t + ", " + runs + ")");
                Due.due(m.calls.toString(), x.turn(t, runs), m.turn(t, runs));
            }
            case 4 -> {
                int mask = r.nextInt(8) == 0 ? r.nextInt(600) - 100 : r.nextInt(256);
                int delay = r.nextInt(8) == 0 ? r.nextInt(1200) - 100 : r.nextInt(9);
                m.calls.add("gate(" + g + ", " + mask + ", " + delay + ")");
                Due.due(m.calls.toString(), x.gate(g, mask, delay), m.gate(g, mask, delay));
            }
            case 5 -> {
                int set = r.nextInt(300) - 20;
                m.calls.add("clear(" + set + ")");
                Due.due(m.calls.toString(), x.clear(set), m.clear(set));
            }
            case 6 -> {
                int n = r.nextInt(20) - 2;
                m.calls.add("advance(" + n + ")");
                Due.due(m.calls.toString(), x.advance(n), m.advance(n));
            }
            default -> {
                int n = r.nextInt(30) - 2;
                m.calls.add("next(" + n + ")");
                Due.due(m.calls.toString(), x.next(n), m.next(n));
            }
        }
    }

    /** Status is a row of booleans and "rests" and "just served" are marks of their own, unlike in the class. */
    private static final class Model {
        final List<String> calls = new ArrayList<>();
        final int[][] timer = new int[8][9];
        final int[][] gate = new int[4][7];
        final boolean[] rests = {true, true, true, true};
        final boolean[] up = new boolean[8];
        final List<int[]> log = new ArrayList<>();
        int now = 0;

        Model() {
            for (int[] t : timer) {
                t[0] = 1;
                t[1] = 1;
            }
            for (int[] g : gate) {
                g[3] = 1;
                g[6] = -1;
            }
        }

        boolean set(int t, int source, int period, boolean once) {
            boolean good = 0 <= t && t <= 7 && 1 <= period && period <= 65535
                && (source == 0 || source == 1) && !(t == 0 && source == 1);
            if (good) {
                timer[t][0] = period;
                timer[t][1] = period;
                timer[t][2] = source;
                timer[t][3] = 0;
                timer[t][4] = once ? 1 : 0;
            }
            return good;
        }

        boolean turn(int t, boolean runs) {
            int want = runs ? 1 : 0;
            if (t < 0 || t > 7 || timer[t][3] == want) {
                return false;
            }
            timer[t][3] = want;
            return true;
        }

        boolean gate(int g, int mask, int delay) {
            if (g < 0 || g > 3 || mask < 0 || mask > 255 || delay < 1 || delay > 1000) {
                return false;
            }
            gate[g][2] = mask;
            gate[g][3] = delay;
            return true;
        }

        int clear(int set) {
            if (set < 0 || set > 255) {
                return -1;
            }
            int cleared = 0;
            for (int t = 0; t < 8; t++) {
                if (up[t] && (set >> t) % 2 == 1) {
                    up[t] = false;
                    timer[t][8]++;
                    cleared += 1 << t;
                }
            }
            return cleared;
        }

        int advance(int n) {
            if (n < 0 || n > 20000) {
                return -1;
            }
            int before = log.size();
            for (int i = 0; i < n; i++) {
                tick();
            }
            return log.size() - before;
        }

        int next(int n) {
            if (n < 0 || n > 20000) {
                return -1;
            }
            int before = log.size();
            int ticks = 0;
            while (ticks < n && log.size() == before) {
                tick();
                ticks++;
            }
            return ticks;
        }

        void tick() {
            now++;
            boolean[] ends = new boolean[8];
            for (int t = 0; t < 8; t++) {
                boolean event = timer[t][2] == 0 ? true : ends[t - 1];
                if (event && timer[t][3] == 1) {
                    timer[t][0]--;
                    ends[t] = timer[t][0] == 0;
                }
                if (ends[t]) {
                    timer[t][0] = timer[t][1];
                    timer[t][3] = timer[t][4] == 1 ? 0 : 1;
                    timer[t][5]++;
                    timer[t][6] += up[t] ? 1 : 0;
                    up[t] = true;
                }
            }
            boolean[] justServed = new boolean[4];
            for (int g = 0; g < 4; g++) {
                if (!rests[g]) {
                    gate[g][1]--;
                    if (gate[g][1] == 0) {
                        justServed[g] = true;
                        serve(g);
                    }
                }
            }
            for (int g = 0; g < 4; g++) {
                if (asked(g) >= 0 && (rests[g] || justServed[g])) {
                    rests[g] = false;
                    gate[g][1] = gate[g][3];
                } else if (justServed[g]) {
                    rests[g] = true;
                }
            }
        }

        void serve(int g) {
            int bit = asked(g);
            if (bit < 0) {
                gate[g][5]++;
                return;
            }
            up[bit] = false;
            timer[bit][7]++;
            gate[g][4]++;
            gate[g][6] = now;
            log.add(new int[] {bit, g, now});
        }

        int asked(int g) {
            for (int t = 0; t < 8; t++) {
                if (up[t] && (gate[g][2] >> t) % 2 == 1) {
                    return t;
                }
            }
            return -1;
        }

        String state() {
            StringBuilder s = new StringBuilder();
            for (int t = 0; t < 8; t++) {
                s.append(" T").append(t);
                for (int v : timer[t]) {
                    s.append(' ').append(v);
                }
            }
            for (int g = 0; g < 4; g++) {
                gate[g][0] = asked(g) >= 0 ? 1 : 0;
                s.append(" G").append(g);
                for (int v : gate[g]) {
                    s.append(' ').append(v);
                }
            }
            int status = 0;
            int soonest = 0;
            for (int t = 7; t >= 0; t--) {
                status = 2 * status + (up[t] ? 1 : 0);
                if (timer[t][3] == 1 && timer[t][2] == 0) {
                    soonest = soonest == 0 ? timer[t][0] : Math.min(soonest, timer[t][0]);
                }
            }
            s.append(" L ").append(status).append(' ').append(now).append(' ').append(log.size());
            s.append(' ').append(soonest).append(" S");
            for (int i = 0; i < 16; i++) {
                int[] e = i < log.size() ? log.get(log.size() - 1 - i) : new int[] {-1, -1, -1};
                s.append(' ').append(e[0]).append('/').append(e[1]).append('/').append(e[2]);
            }
            return s.toString();
        }
    }
}
