/** Promise 3: turn. */
public final class TurnTest {
    public static void main(String[] args) {
        onAndOff();
        countStays();
        onceMayRunAgain();
        sourceOfOneThatDoesNotRun();
        wrongInputs();
        Due.finish("TurnTest");
    }

    private static void onAndOff() {
        TimerGates x = new TimerGates();
        for (int t = 0; t < 8; t++) {
            Due.due("turn(" + t + ", false) at first", x.turn(t, false), false);
            Due.due("turn(" + t + ", true)", x.turn(t, true), true);
            Due.due("runs " + t, x.timer(t, 3), 1);
            Due.due("turn(" + t + ", true) again", x.turn(t, true), false);
            Due.due("runs still " + t, x.timer(t, 3), 1);
            Due.due("turn(" + t + ", false)", x.turn(t, false), true);
            Due.due("turn(" + t + ", false) again", x.turn(t, false), false);
            Due.due("runs no more " + t, x.timer(t, 3), 0);
        }
    }

    private static void countStays() {
        TimerGates x = new TimerGates();
        x.set(0, 0, 10, false);
        x.turn(0, true);
        x.advance(4);
        x.turn(0, false);
        Due.due("count stays at turn", x.timer(0, 0), 6);
        x.advance(100);
        Due.due("count stays while it does not run", x.timer(0, 0), 6);
        x.turn(0, true);
        Due.due("count stays at turn back", x.timer(0, 0), 6);
        x.advance(5);
        Due.due("not ended yet", x.timer(0, 5), 0);
        x.advance(1);
        Due.due("ended", x.timer(0, 5), 1);
        Due.due("count is period", x.timer(0, 0), 10);
    }

    private static void onceMayRunAgain() {
        TimerGates x = new TimerGates();
        x.set(5, 0, 2, true);
        x.turn(5, true);
        x.advance(10);
        Due.due("ended once", x.timer(5, 5), 1);
        Due.due("turn(5, false) when it ended", x.turn(5, false), false);
        Due.due("turn(5, true) when it ended", x.turn(5, true), true);
        x.advance(10);
        Due.due("ended twice", x.timer(5, 5), 2);
        Due.due("missed one", x.timer(5, 6), 1);
    }

    private static void sourceOfOneThatDoesNotRun() {
        TimerGates x = new TimerGates();
        x.set(1, 1, 2, false);
        x.turn(1, true);
        x.advance(10);
        Due.due("no event without the one before", x.timer(1, 0), 2);
        x.turn(0, true);
        x.advance(1);
        Due.due("one event", x.timer(1, 0), 1);
        x.turn(0, false);
        x.advance(10);
        Due.due("no more events", x.timer(1, 0), 1);
    }

    private static void wrongInputs() {
        TimerGates x = Due.busy();
        String before = Due.state(x);
        int[] noTimer = {-1, 8, 9, 32};
        for (int t : noTimer) {
            Due.due("turn(" + t + ", true)", x.turn(t, true), false);
            Due.due("turn(" + t + ", false)", x.turn(t, false), false);
        }
        for (int w : Due.WILD) {
            Due.due("turn(" + w + ", true)", x.turn(w, true), false);
            Due.due("turn(" + w + ", false)", x.turn(w, false), false);
        }
        Due.due("turn(0, true) of one that runs", x.turn(0, true), false);
        Due.due("turn(2, false) of one that does not", x.turn(2, false), false);
        Due.same("wrong turns", Due.state(x), before);
    }
}
