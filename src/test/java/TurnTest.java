/** Promise 3: turn. */
public final class TurnTest {
    public static void main(String[] args) {
        onAndOff();
        timersAre0To7();
        falseIfItIsSo();
        falseOnceItHasEndedByItself();
        countStays();
        countStaysAtItsEdges();
        sourceOfOneThatDoesNotRun();
        wildInputs();
        Due.finish("TurnTest");
    }

    private static void onAndOff() {
        TimerGates x = new TimerGates();
        for (int t = 0; t < 8; t++) {
            Due.due("turn(" + t + ", false) at first", x.turn(t, false), false);
            Due.due("turn(" + t + ", true)", x.turn(t, true), true);
            Due.due("runs " + t, x.timer(t, 3), 1);
            Due.due("turn(" + t + ", true) again", x.turn(t, true), false);
            Due.due("runs still " + t, x.timer(t, 3), 1);
            Due.due("turn(" + t + ", false)", x.turn(t, false), true);
            Due.due("turn(" + t + ", false) again", x.turn(t, false), false);
            Due.due("runs no more " + t, x.timer(t, 3), 0);
        }
    }

    /** "TIMER t (0 .. 7)"; "false if there is none such". */
    private static void timersAre0To7() {
        for (int t = 0; t < 8; t++) {
            TimerGates x = new TimerGates();
            Due.due("turn(" + t + ", true)", x.turn(t, true), true);
            for (int other = 0; other < 8; other++) {
                Due.due(other + " runs behind turn of " + t, x.timer(other, 3), other == t ? 1 : 0);
            }
        }
        int[] noTimer = {-8, -1, 8, 9, 15, 16, 32};
        for (int t : noTimer) {
            Due.refused("turn(" + t + ", true)", x -> x.turn(t, true));
            Due.refused("turn(" + t + ", false)", x -> x.turn(t, false));
        }
    }

    /** "false if .. it is so", and nothing has changed. */
    private static void falseIfItIsSo() {
        for (int t = 0; t < 8; t++) {
            int timer = t;
            Due.changesNothing("turn(" + t + ", false) of a new one", TimerGates::new,
                x -> Due.due("turn(" + timer + ", false) of a new one", x.turn(timer, false), false));
            Due.changesNothing("turn(" + t + ", true) of one that runs", Due::full,
                x -> Due.due("turn(" + timer + ", true) of one that runs", x.turn(timer, true), false));
            Due.changesNothing("turn of one there and back", Due::full, x -> {
                Due.due("turn(" + timer + ", false) of one that runs", x.turn(timer, false), true);
                Due.due("turn(" + timer + ", true) of one that does not", x.turn(timer, true), true);
            });
        }
    }

    /** "one that is ONCE does not RUN any more": then it is so for false, and not so for true. */
    private static void falseOnceItHasEndedByItself() {
        TimerGates x = new TimerGates();
        x.set(5, 0, 2, true);
        x.turn(5, true);
        x.advance(1);
        Due.due("turn(5, true) one tick before its end", x.turn(5, true), false);
        x.advance(1);
        Due.due("ended once", x.timer(5, 5), 1);
        Due.due("turn(5, false) when it ended", x.turn(5, false), false);
        Due.due("turn(5, true) when it ended", x.turn(5, true), true);
        x.advance(10);
        Due.due("ended twice", x.timer(5, 5), 2);
        Due.due("missed one", x.timer(5, 6), 1);
    }

    private static void countStays() {
        TimerGates x = new TimerGates();
        x.set(0, 0, 10, false);
        x.turn(0, true);
        x.advance(4);
        x.turn(0, false);
        Due.due("count stays at turn", x.timer(0, 0), 6);
        x.advance(100);
        Due.due("count stays while it does not run", x.timer(0, 0), 6);
        x.turn(0, true);
        Due.due("count stays at turn back", x.timer(0, 0), 6);
        x.advance(5);
        Due.due("not ended yet", x.timer(0, 5), 0);
        x.advance(1);
        Due.due("ended", x.timer(0, 5), 1);
        Due.due("count is period", x.timer(0, 0), 10);
    }

    /** "(its COUNT stays)", at 1 and at PERIOD too. */
    private static void countStaysAtItsEdges() {
        TimerGates x = new TimerGates();
        x.set(3, 0, 4, false);
        x.turn(3, true);
        x.advance(3);
        x.turn(3, false);
        x.advance(5);
        Due.due("count stays 1", x.timer(3, 0), 1);
        Due.due("no end", x.timer(3, 5), 0);
        x.turn(3, true);
        x.advance(1);
        Due.due("the end", x.timer(3, 5), 1);
        x.turn(3, false);
        x.advance(5);
        Due.due("count stays at period", x.timer(3, 0), 4);
        Due.due("no other end", x.timer(3, 5), 1);
    }

    private static void sourceOfOneThatDoesNotRun() {
        TimerGates x = new TimerGates();
        x.set(1, 1, 2, false);
        x.turn(1, true);
        x.advance(10);
        Due.due("no event without the one before", x.timer(1, 0), 2);
        x.turn(0, true);
        x.advance(1);
        Due.due("one event", x.timer(1, 0), 1);
        x.turn(0, false);
        x.advance(10);
        Due.due("no more events", x.timer(1, 0), 1);
    }

    private static void wildInputs() {
        for (int w : Due.WILD) {
            Due.refused("turn(" + w + ", true)", x -> x.turn(w, true));
            Due.refused("turn(" + w + ", false)", x -> x.turn(w, false));
        }
    }
}
