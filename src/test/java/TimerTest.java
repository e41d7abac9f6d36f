/** Promise 8: timer. */
public final class TimerTest {
    public static void main(String[] args) {
        allOfOne();
        countGoesDown();
        numbersAreOfTheTimerItself();
        from0To1();
        timersAre0To7();
        whatsAre0To8();
        Due.finish("TimerTest");
    }

    private static void allOfOne() {
        TimerGates x = new TimerGates();
        x.set(2, 0, 1, false);
        x.set(3, 1, 5, false);
        x.turn(2, true);
        x.turn(3, true);
        x.advance(11);
        x.clear(8);
        x.advance(10);
        x.gate(1, 8, 1);
        x.advance(2);
        x.set(3, 1, 6, true);
        x.turn(3, true);
        x.advance(2);
        int[] want = {4, 6, 1, 1, 1, 4, 2, 1, 1};
        for (int what = 0; what < 9; what++) {
            Due.due("timer(3, " + what + ")", x.timer(3, what), want[what]);
        }
    }

    private static void countGoesDown() {
        TimerGates x = new TimerGates();
        x.set(6, 0, 4, false);
        x.turn(6, true);
        int[] want = {3, 2, 1, 4, 3, 2, 1, 4};
        for (int i = 0; i < want.length; i++) {
            x.advance(1);
            Due.due("count in tick " + (i + 1), x.timer(6, 0), want[i]);
            Due.due("ended in tick " + (i + 1), x.timer(6, 5), (i + 1) / 4);
        }
        Due.due("missed", x.timer(6, 6), 1);
    }

    private static void numbersAreOfTheTimerItself() {
        TimerGates x = new TimerGates();
        for (int t = 0; t < 8; t++) {
            x.set(t, 0, t + 1, false);
            x.turn(t, true);
        }
        x.advance(840);
        for (int t = 0; t < 8; t++) {
            Due.due("ended of " + t, x.timer(t, 5), 840 / (t + 1));
            Due.due("missed of " + t, x.timer(t, 6), 840 / (t + 1) - 1);
            Due.due("served of " + t, x.timer(t, 7), 0);
        }
    }

    /** "1 if it RUNS, else 0", "1 if it is ONCE", and the four numbers from 0 to 1. */
    private static void from0To1() {
        TimerGates x = new TimerGates();
        due(x, "at first", 1, 1, 0, 0, 0, 0, 0, 0, 0);
        x.set(5, 0, 2, true);
        due(x, "set", 2, 2, 0, 0, 1, 0, 0, 0, 0);
        x.turn(5, true);
        due(x, "turned", 2, 2, 0, 1, 1, 0, 0, 0, 0);
        x.advance(1);
        due(x, "a tick before its end", 1, 2, 0, 1, 1, 0, 0, 0, 0);
        x.advance(1);
        due(x, "ended", 2, 2, 0, 0, 1, 1, 0, 0, 0);
        Due.raise(x, 32);
        due(x, "missed", 1, 1, 0, 0, 1, 2, 1, 0, 0);
        x.clear(32);
        due(x, "cleared", 1, 1, 0, 0, 1, 2, 1, 0, 1);
        x.clear(32);
        due(x, "cleared when it was 0", 1, 1, 0, 0, 1, 2, 1, 0, 1);
        Due.raise(x, 32);
        x.gate(0, 32, 1);
        x.advance(1);
        due(x, "a tick before its service", 1, 1, 0, 0, 1, 3, 1, 0, 1);
        x.advance(1);
        due(x, "served", 1, 1, 0, 0, 1, 3, 1, 1, 1);
    }

    private static void due(TimerGates x, String when, int... want) {
        for (int what = 0; what < 9; what++) {
            Due.due(when + ": timer(5, " + what + ")", x.timer(5, what), want[what]);
        }
    }

    /** "NONE if there is none such": t is 0 .. 7. */
    private static void timersAre0To7() {
        int[] noTimer = {-8, -1, 8, 9, 15, 16, 32};
        for (int what = 0; what < 9; what++) {
            int read = what;
            for (int t : noTimer) {
                Due.none("timer(" + t + ", " + what + ")", x -> x.timer(t, read));
            }
            TimerGates x = Due.full();
            for (int t = 0; t < 8; t++) {
                Due.due("timer(" + t + ", " + what + ") is there", x.timer(t, what) >= 0, true);
            }
        }
    }

    /** "NONE if .. no such what": what is 0 .. 8. */
    private static void whatsAre0To8() {
        int[] noWhat = {-9, -1, 9, 10, 16, 255};
        for (int t = 0; t < 8; t++) {
            int timer = t;
            for (int what : noWhat) {
                Due.none("timer(" + t + ", " + what + ")", x -> x.timer(timer, what));
            }
        }
        for (int w : Due.WILD) {
            Due.none("timer(" + w + ", 0)", x -> x.timer(w, 0));
            Due.none("timer(0, " + w + ")", x -> x.timer(0, w));
            Due.none("timer(" + w + ", " + w + ")", x -> x.timer(w, w));
        }
    }
}
