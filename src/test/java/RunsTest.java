/** Runs that were worked out by hand, tick by tick, from the document: every call's answer is looked at. */
public final class RunsTest {
    public static void main(String[] args) {
        timersThatCountEnds();
        setAndGateAnew();
        gatesForTheSameBits();
        Due.finish("RunsTest");
    }

    /** Ends of 0 in ticks 3, 6, 9, 12 and 15; of 1 in 6 and 12; of 2, which is once, in 6. */
    private static void timersThatCountEnds() {
        Run x = new Run("timers that count ends");
        x.set(0, 0, 3, false, true);
        x.set(1, 1, 2, false, true);
        x.set(2, 1, 1, true, true);
        for (int t = 0; t < 3; t++) {
            x.turn(t, true, true);
        }
        x.gate(0, 6, 2, true);
        x.gate(1, 1, 4, true);
        x.advance(6, 0);
        x.look(7, 6, 0, 3);
        x.timer(0, 3, 3, 0, 1, 0, 2, 1, 0, 0);
        x.timer(2, 1, 1, 1, 0, 1, 1, 0, 0, 0);
        x.gateOf(0, 1, 2, 6, 2, 0, 0, -1);
        x.gateOf(1, 1, 1, 1, 4, 0, 0, -1);
        x.next(20, 1);
        x.served(0, 0, 1, 7);
        x.next(20, 1);
        x.served(0, 1, 0, 8);
        x.next(20, 2);
        x.gateOf(0, 0, 0, 6, 2, 2, 0, 10);
        x.advance(4, 2);
        x.look(0, 14, 5, 1);
        x.timer(0, 1, 3, 0, 1, 0, 4, 2, 2, 0);
        x.timer(1, 2, 2, 1, 1, 0, 2, 0, 2, 0);
        x.timer(2, 1, 1, 1, 0, 1, 1, 0, 1, 0);
        x.served(0, 1, 0, 14);
        x.served(1, 0, 1, 13);
        x.served(2, 2, 0, 10);
        x.served(3, 1, 0, 8);
        x.served(4, 0, 1, 7);
        x.served(5, -1, -1, -1);
        x.next(0, 0);
        x.next(1, 1);
        x.look(1, 15, 5, 3);
        x.gateOf(1, 1, 4, 1, 4, 2, 0, 13);
    }

    /** Refused calls in between, and what was counted "up to now" goes on behind set and gate. */
    private static void setAndGateAnew() {
        Run x = new Run("set and gate anew");
        x.set(3, 0, 2, false, true);
        x.turn(3, true, true);
        x.turn(3, true, false);
        x.gate(2, 8, 3, true);
        x.advance(4, 0);
        x.gateOf(2, 1, 1, 8, 3, 0, 0, -1);
        x.gate(2, 8, 5, true);
        x.gate(2, 8, 1001, false);
        x.gate(2, 256, 5, false);
        x.gateOf(2, 1, 1, 8, 5, 0, 0, -1);
        x.advance(1, 1);
        x.advance(1, 0);
        x.clear(256, -1);
        x.clear(8, 8);
        x.clear(8, 0);
        x.gateOf(2, 0, 5, 8, 5, 1, 0, 5);
        x.set(3, 1, 1, true, true);
        x.set(3, 2, 9, false, false);
        x.set(3, 0, 65536, false, false);
        x.set(0, 1, 9, false, false);
        x.timer(3, 1, 1, 1, 0, 1, 3, 1, 1, 1);
        x.look(0, 6, 1, 0);
        x.turn(3, true, true);
        x.look(0, 6, 1, 0);
        x.set(2, 0, 7, true, true);
        x.turn(2, true, true);
        x.look(0, 6, 1, 7);
        x.advance(5, 0);
        x.gateOf(2, 0, 0, 8, 5, 1, 1, 5);
        x.next(20001, -1);
        x.next(-1, -1);
        x.advance(20001, -1);
        x.look(0, 11, 1, 2);
        x.next(20000, 7);
        x.served(0, 3, 2, 18);
        x.served(1, 3, 2, 5);
        x.look(4, 18, 2, 0);
        x.timer(3, 1, 1, 1, 0, 1, 4, 1, 2, 1);
        x.timer(2, 7, 7, 0, 0, 1, 1, 0, 0, 0);
        x.next(3, 3);
        x.look(4, 21, 2, 0);
        x.gateOf(2, 0, 0, 8, 5, 2, 1, 18);
    }

    /** In tick 3 gates 0 to 2 take all; in tick 4 gate 3 is idle, in tick 7 gates 1 and 2 are. */
    private static void gatesForTheSameBits() {
        Run x = new Run("gates for the same bits");
        for (int t = 5; t < 8; t++) {
            x.set(t, 0, 1, true, true);
            x.turn(t, true, true);
        }
        x.gate(0, 224, 2, true);
        x.gate(1, 224, 2, true);
        x.gate(2, 128, 2, true);
        x.gate(3, 96, 3, true);
        x.advance(2, 0);
        x.look(224, 2, 0, 0);
        x.advance(1, 3);
        x.look(0, 3, 3, 0);
        x.gateOf(3, 0, 1, 96, 3, 0, 0, -1);
        x.advance(1, 0);
        x.gateOf(3, 0, 0, 96, 3, 0, 1, -1);
        x.served(0, 7, 2, 3);
        x.served(1, 6, 1, 3);
        x.served(2, 5, 0, 3);
        x.served(3, -1, -1, -1);
        x.turn(7, true, true);
        x.turn(6, true, true);
        x.turn(5, false, false);
        x.gate(3, 64, 1, true);
        x.next(9, 2);
        x.served(0, 6, 3, 6);
        x.look(128, 6, 4, 0);
        x.next(9, 1);
        x.served(0, 7, 0, 7);
        x.gateOf(0, 0, 0, 224, 2, 2, 0, 7);
        x.gateOf(1, 0, 0, 224, 2, 1, 1, 3);
        x.gateOf(2, 0, 0, 128, 2, 1, 1, 3);
        x.gateOf(3, 0, 0, 64, 1, 1, 1, 6);
        x.timer(5, 1, 1, 0, 0, 1, 1, 0, 1, 0);
        x.timer(6, 1, 1, 0, 0, 1, 2, 0, 2, 0);
        x.timer(7, 1, 1, 0, 0, 1, 2, 0, 2, 0);
        x.look(0, 7, 5, 0);
    }

    /** Calls with the answer that is due as their last argument; the reads read every what. */
    private static final class Run {
        private final TimerGates x = new TimerGates();
        private final String name;
        private int calls = 0;

        Run(String name) {
            this.name = name;
        }

        private String call(String text) {
            calls++;
            return name + ", call " + calls + ": " + text;
        }

        void set(int t, int source, int period, boolean once, boolean want) {
            Due.due(call("set(" + t + ", " + source + ", " + period + ", " + once + ")"),
                x.set(t, source, period, once), want);
        }

        void turn(int t, boolean runs, boolean want) {
            Due.due(call("turn(" + t + ", " + runs + ")"), x.turn(t, runs), want);
        }

        void gate(int g, int mask, int delay, boolean want) {
            Due.due(call("gate(" + g + ", " + mask + ", " + delay + ")"), x.gate(g, mask, delay), want);
        }

        void clear(int set, int want) {
            Due.due(call("clear(" + set + ")"), x.clear(set), want);
        }

        void advance(int n, int want) {
            Due.due(call("advance(" + n + ")"), x.advance(n), want);
        }

        void next(int n, int want) {
            Due.due(call("next(" + n + ")"), x.next(n), want);
        }

        void timer(int t, int... want) {
            for (int what = 0; what < 9; what++) {
                Due.due(call("timer(" + t + ", " + what + ")"), x.timer(t, what), want[what]);
            }
        }

        void gateOf(int g, int... want) {
            for (int what = 0; what < 7; what++) {
                Due.due(call("gateOf(" + g + ", " + what + ")"), x.gateOf(g, what), want[what]);
            }
        }

        void look(int... want) {
            for (int what = 0; what < 4; what++) {
                Due.due(call("look(" + what + ")"), x.look(what), want[what]);
            }
        }

        void served(int i, int... want) {
            for (int what = 0; what < 3; what++) {
                Due.due(call("served(" + i + ", " + what + ")"), x.served(i, what), want[what]);
            }
        }
    }
}
