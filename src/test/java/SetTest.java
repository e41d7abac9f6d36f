/** Promise 2: set. */
public final class SetTest {
    public static void main(String[] args) {
        ordinary();
        edges();
        stopsAndStartsAnew();
        keepsWhatWasCounted();
        wrongInputs();
        Due.finish("SetTest");
    }

    private static void ordinary() {
        TimerGates x = new TimerGates();
        for (int t = 0; t < 8; t++) {
            int source = t == 0 ? 0 : t % 2;
            boolean once = t % 3 == 0;
            Due.due("set(" + t + ")", x.set(t, source, 100 + t, once), true);
            Due.due("count of " + t, x.timer(t, 0), 100 + t);
            Due.due("period of " + t, x.timer(t, 1), 100 + t);
            Due.due("source of " + t, x.timer(t, 2), source);
            Due.due("runs of " + t, x.timer(t, 3), 0);
            Due.due("once of " + t, x.timer(t, 4), once ? 1 : 0);
        }
        Due.due("set changes once back", x.set(3, 0, 9, false), true);
        Due.due("once of 3", x.timer(3, 4), 0);
        Due.due("source of 3", x.timer(3, 2), 0);
        Due.due("period of 4 untouched", x.timer(4, 1), 104);
    }

    private static void edges() {
        TimerGates x = new TimerGates();
        Due.due("set(0, 0, 1, false)", x.set(0, 0, 1, false), true);
        Due.due("set(0, 0, 65535, false)", x.set(0, 0, 65535, false), true);
        Due.due("period 65535", x.timer(0, 1), 65535);
        Due.due("set(1, 1, 65535, true)", x.set(1, 1, 65535, true), true);
        Due.due("set(7, 1, 1, true)", x.set(7, 1, 1, true), true);
        Due.due("set(7, 1, 1, true) once more", x.set(7, 1, 1, true), true);
    }

    private static void stopsAndStartsAnew() {
        TimerGates x = new TimerGates();
        x.set(4, 0, 10, false);
        x.turn(4, true);
        x.advance(3);
        Due.due("count before", x.timer(4, 0), 7);
        Due.due("set of one that runs", x.set(4, 0, 10, false), true);
        Due.due("count is period", x.timer(4, 0), 10);
        Due.due("it does not run", x.timer(4, 3), 0);
        x.advance(20);
        Due.due("count stays", x.timer(4, 0), 10);
        Due.due("no end", x.timer(4, 5), 0);
    }

    private static void keepsWhatWasCounted() {
        TimerGates x = new TimerGates();
        x.set(2, 0, 1, false);
        x.turn(2, true);
        x.advance(5);
        x.clear(4);
        x.advance(3);
        x.gate(1, 4, 1);
        x.advance(2);
        int ended = x.timer(2, 5);
        int missed = x.timer(2, 6);
        int status = x.look(0);
        Due.due("ended before set", ended, 10);
        Due.due("missed before set", missed, 8);
        x.set(2, 1, 7, true);
        Due.due("ended stays", x.timer(2, 5), ended);
        Due.due("missed stays", x.timer(2, 6), missed);
        Due.due("served stays", x.timer(2, 7), 1);
        Due.due("cleared stays", x.timer(2, 8), 1);
        Due.due("status stays", x.look(0), status);
    }

    private static void wrongInputs() {
        TimerGates x = Due.busy();
        String before = Due.state(x);
        int[] noTimer = {-1, 8, 9, 31, 32};
        for (int t : noTimer) {
            Due.due("set(" + t + ", 0, 5, false)", x.set(t, 0, 5, false), false);
        }
        int[] noSource = {-1, 2, 3, 255};
        for (int source : noSource) {
            Due.due("set(1, " + source + ", 5, false)", x.set(1, source, 5, false), false);
        }
        int[] noPeriod = {0, -1, 65536, 65537};
        for (int period : noPeriod) {
            Due.due("set(1, 0, " + period + ", true)", x.set(1, 0, period, true), false);
        }
        Due.due("set(0, 1, 5, false)", x.set(0, 1, 5, false), false);
        for (int w : Due.WILD) {
            Due.due("set(" + w + ", 0, 5, true)", x.set(w, 0, 5, true), false);
            Due.due("set(1, " + w + ", 5, true)", x.set(1, w, 5, true), false);
            Due.due("set(1, 0, " + w + ", true)", x.set(1, 0, w, true), false);
            Due.due("set(" + w + ", " + w + ", " + w + ", true)", x.set(w, w, w, true), false);
        }
        Due.same("wrong sets", Due.state(x), before);
    }
}
