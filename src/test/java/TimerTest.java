/** Promise 8: timer. */
public final class TimerTest {
    public static void main(String[] args) {
        allOfOne();
        countGoesDown();
        numbersAreOfTheTimerItself();
        wrongInputs();
        Due.finish("TimerTest");
    }

    private static void allOfOne() {
        TimerGates x = new TimerGates();
        x.set(2, 0, 1, false);
        x.set(3, 1, 5, false);
        x.turn(2, true);
        x.turn(3, true);
        x.advance(11);
        x.clear(8);
        x.advance(10);
        x.gate(1, 8, 1);
        x.advance(2);
        x.set(3, 1, 6, true);
        x.turn(3, true);
        x.advance(2);
        int[] want = {4, 6, 1, 1, 1, 4, 2, 1, 1};
        for (int what = 0; what < 9; what++) {
            Due.due("timer(3, " + what + ")", x.timer(3, what), want[what]);
        }
    }

    private static void countGoesDown() {
        TimerGates x = new TimerGates();
        x.set(6, 0, 4, false);
        x.turn(6, true);
        int[] want = {3, 2, 1, 4, 3, 2, 1, 4};
        for (int i = 0; i < want.length; i++) {
            x.advance(1);
            Due.due("count in tick " + (i + 1), x.timer(6, 0), want[i]);
            Due.due("ended in tick " + (i + 1), x.timer(6, 5), (i + 1) / 4);
        }
        Due.due("missed", x.timer(6, 6), 1);
    }

    private static void numbersAreOfTheTimerItself() {
        TimerGates x = new TimerGates();
        for (int t = 0; t < 8; t++) {
            x.set(t, 0, t + 1, false);
            x.turn(t, true);
        }
        x.advance(840);
        for (int t = 0; t < 8; t++) {
            Due.due("ended of " + t, x.timer(t, 5), 840 / (t + 1));
            Due.due("missed of " + t, x.timer(t, 6), 840 / (t + 1) - 1);
            Due.due("served of " + t, x.timer(t, 7), 0);
        }
    }

    private static void wrongInputs() {
        TimerGates x = Due.busy();
        String before = Due.state(x);
        int[] noTimer = {-1, 8, 9, 32};
        for (int t : noTimer) {
            for (int what = 0; what < 9; what++) {
                Due.due("timer(" + t + ", " + what + ")", x.timer(t, what), -1);
            }
        }
        for (int t = 0; t < 8; t++) {
            Due.due("timer(" + t + ", -1)", x.timer(t, -1), -1);
            Due.due("timer(" + t + ", 9)", x.timer(t, 9), -1);
        }
        for (int w : Due.WILD) {
            Due.due("timer(" + w + ", 0)", x.timer(w, 0), -1);
            Due.due("timer(0, " + w + ")", x.timer(0, w), -1);
            Due.due("timer(" + w + ", " + w + ")", x.timer(w, w), -1);
        }
        Due.same("reads of timers", Due.state(x), before);
    }
}
