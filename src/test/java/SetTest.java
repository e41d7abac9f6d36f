/** Promise 2: set. */
public final class SetTest {
    public static void main(String[] args) {
        ordinary();
        timersAre0To7();
        sourcesAre0And1();
        timer0HasOnlySource0();
        periodsAre1To65535();
        countBecomesPeriod();
        doesNotRunAnyMore();
        onceOrNot();
        keepsWhatWasCounted();
        wildInputs();
        Due.finish("SetTest");
    }

    private static void ordinary() {
        TimerGates x = new TimerGates();
        for (int t = 0; t < 8; t++) {
            int source = t == 0 ? 0 : t % 2;
            boolean once = t % 3 == 0;
            Due.due("set(" + t + ")", x.set(t, source, 100 + t, once), true);
            Due.due("count of " + t, x.timer(t, 0), 100 + t);
            Due.due("period of " + t, x.timer(t, 1), 100 + t);
            Due.due("source of " + t, x.timer(t, 2), source);
            Due.due("runs of " + t, x.timer(t, 3), 0);
            Due.due("once of " + t, x.timer(t, 4), once ? 1 : 0);
        }
        Due.due("set changes once back", x.set(3, 0, 9, false), true);
        Due.due("once of 3", x.timer(3, 4), 0);
        Due.due("source of 3", x.timer(3, 2), 0);
        Due.due("period of 4 untouched", x.timer(4, 1), 104);
    }

    /** "TIMER t (0 .. 7)"; "false if there is none such". */
    private static void timersAre0To7() {
        for (int t = 0; t < 8; t++) {
            TimerGates x = new TimerGates();
            Due.due("set(" + t + ", 0, 5, true)", x.set(t, 0, 5, true), true);
            for (int other = 0; other < 8; other++) {
                Due.due("period of " + other + " behind set of " + t, x.timer(other, 1), other == t ? 5 : 1);
            }
        }
        int[] noTimer = {-8, -1, 8, 9, 15, 16, 32};
        for (int t : noTimer) {
            Due.refused("set(" + t + ", 0, 5, true)", x -> x.set(t, 0, 5, true));
            Due.refused("set(" + t + ", 1, 1, false)", x -> x.set(t, 1, 1, false));
        }
    }

    /** "a SOURCE (0: TICKS; 1: the ENDS of TIMER t - 1 ..)". */
    private static void sourcesAre0And1() {
        for (int t = 1; t < 8; t++) {
            TimerGates x = new TimerGates();
            Due.due("set(" + t + ", 1, 5, false)", x.set(t, 1, 5, false), true);
            Due.due("source of " + t, x.timer(t, 2), 1);
            Due.due("set(" + t + ", 0, 5, false)", x.set(t, 0, 5, false), true);
            Due.due("source of " + t, x.timer(t, 2), 0);
        }
        int[] noSource = {-1, 2, 3, 7, 255, 256};
        for (int t = 0; t < 8; t++) {
            int timer = t;
            for (int source : noSource) {
                Due.refused("set(" + t + ", " + source + ", 5, true)", x -> x.set(timer, source, 5, true));
            }
        }
    }

    /** "TIMER 0 has only 0". */
    private static void timer0HasOnlySource0() {
        Due.due("set(0, 0, 5, true)", new TimerGates().set(0, 0, 5, true), true);
        Due.due("set(1, 1, 5, true)", new TimerGates().set(1, 1, 5, true), true);
        Due.refused("set(0, 1, 5, true)", x -> x.set(0, 1, 5, true));
        Due.refused("set(0, 1, 1, false)", x -> x.set(0, 1, 1, false));
    }

    /** "a PERIOD (1 .. 65535)"; "false if .. one of these is not as told". */
    private static void periodsAre1To65535() {
        int[] periods = {1, 2, 255, 256, 32767, 32768, 65534, 65535};
        int[] noPeriod = {-65535, -1, 0, 65536, 65537, 131071};
        for (int t = 0; t < 8; t++) {
            int timer = t;
            TimerGates x = new TimerGates();
            for (int period : periods) {
                Due.due("set(" + t + ", 0, " + period + ", false)", x.set(t, 0, period, false), true);
                Due.due("period of " + t, x.timer(t, 1), period);
                Due.due("count of " + t, x.timer(t, 0), period);
            }
            for (int period : noPeriod) {
                Due.refused("set(" + t + ", 0, " + period + ", true)", y -> y.set(timer, 0, period, true));
            }
        }
        Due.due("set(7, 1, 65535, true)", new TimerGates().set(7, 1, 65535, true), true);
        Due.refused("set(7, 1, 65536, true)", x -> x.set(7, 1, 65536, true));
        Due.due("set(7, 1, 1, true)", new TimerGates().set(7, 1, 1, true), true);
        Due.refused("set(7, 1, 0, true)", x -> x.set(7, 1, 0, true));
    }

    /** "COUNT is PERIOD", of one whose count is less, and of one that gets a lesser period. */
    private static void countBecomesPeriod() {
        TimerGates x = new TimerGates();
        x.set(4, 0, 10, false);
        x.turn(4, true);
        x.advance(3);
        Due.due("count before", x.timer(4, 0), 7);
        Due.due("set with the same period", x.set(4, 0, 10, false), true);
        Due.due("count is period", x.timer(4, 0), 10);
        Due.due("set with a lesser period", x.set(4, 0, 2, false), true);
        Due.due("count is the lesser period", x.timer(4, 0), 2);
        x.turn(4, true);
        x.advance(1);
        Due.due("no end in the first tick", x.timer(4, 5), 0);
        x.advance(1);
        Due.due("an end in the second", x.timer(4, 5), 1);
    }

    /** "and does not RUN", whether it did or not. */
    private static void doesNotRunAnyMore() {
        TimerGates x = new TimerGates();
        x.set(4, 0, 10, false);
        Due.due("one that did not run does not", x.timer(4, 3), 0);
        x.turn(4, true);
        Due.due("set of one that runs", x.set(4, 0, 10, false), true);
        Due.due("it does not run", x.timer(4, 3), 0);
        x.advance(20);
        Due.due("count stays", x.timer(4, 0), 10);
        Due.due("no end", x.timer(4, 5), 0);
        Due.due("it may run again", x.turn(4, true), true);
        x.advance(20);
        Due.due("two ends", x.timer(4, 5), 2);
    }

    /** "it is ONCE or not", as the latest set says. */
    private static void onceOrNot() {
        TimerGates x = new TimerGates();
        x.set(5, 0, 2, true);
        x.turn(5, true);
        x.advance(10);
        Due.due("once: one end", x.timer(5, 5), 1);
        x.set(5, 0, 2, false);
        x.turn(5, true);
        x.advance(10);
        Due.due("not once: five ends more", x.timer(5, 5), 6);
        x.set(5, 0, 2, true);
        x.turn(5, true);
        x.advance(10);
        Due.due("once again: one end more", x.timer(5, 5), 7);
    }

    private static void keepsWhatWasCounted() {
        TimerGates x = new TimerGates();
        x.set(2, 0, 1, false);
        x.turn(2, true);
        x.advance(5);
        x.clear(4);
        x.advance(3);
        x.gate(1, 4, 1);
        x.advance(2);
        int ended = x.timer(2, 5);
        int missed = x.timer(2, 6);
        Due.due("ended before set", ended, 10);
        Due.due("missed before set", missed, 8);
        x.set(2, 1, 7, true);
        Due.due("ended stays", x.timer(2, 5), ended);
        Due.due("missed stays", x.timer(2, 6), missed);
        Due.due("served stays", x.timer(2, 7), 1);
        Due.due("cleared stays", x.timer(2, 8), 1);
        TimerGates up = Due.withStatus(255);
        up.set(2, 1, 7, true);
        Due.due("status stays", up.look(0), 255);
    }

    private static void wildInputs() {
        for (int w : Due.WILD) {
            Due.refused("set(" + w + ", 0, 5, true)", x -> x.set(w, 0, 5, true));
            Due.refused("set(1, " + w + ", 5, true)", x -> x.set(1, w, 5, true));
            Due.refused("set(1, 0, " + w + ", true)", x -> x.set(1, 0, w, true));
            Due.refused("set(" + w + ", " + w + ", " + w + ", true)", x -> x.set(w, w, w, true));
        }
    }
}
