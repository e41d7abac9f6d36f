/** Terms, the TIMERS: events, ENDS, ONCE and MISSED, on both sides of each boundary (promises 6 to 8). */
public final class TimerTermsTest {
    public static void main(String[] args) {
        endsAtThePeriodthTick();
        endsAtThePeriodthEnd();
        countIsFrom1ToPeriod();
        onlyOneThatRunsCounts();
        onceDoesNotRunAnyMore();
        notOnceGoesOn();
        endsOfTheOneBeforeAlone();
        endOfTheOneBeforeInThisTick();
        oneEventATick();
        endedBeforeIsNoEventLater();
        missedIfTheBitIs1Already();
        notMissedIfTheBitIs0Again();
        missedInTheTickOfItsService();
        missedOnesAreEndsToo();
        bitOfTheTimerItself();
        Due.finish("TimerTermsTest");
    }

    private static TimerGates running(int t, int source, int period, boolean once) {
        TimerGates x = new TimerGates();
        start(x, t, source, period, once);
        return x;
    }

    private static void start(TimerGates x, int t, int source, int period, boolean once) {
        x.set(t, source, period, once);
        x.turn(t, true);
    }

    /** By calls of at most 20000. */
    private static void ticks(TimerGates x, int n) {
        for (int left = n; left > 0; left -= 20000) {
            x.advance(Math.min(left, 20000));
        }
    }

    private static void notYetThenEnded(String what, TimerGates x, int t, int period) {
        ticks(x, period - 1);
        Due.due(what + ": count behind all events but one", x.timer(t, 0), 1);
        Due.due(what + ": ended behind all events but one", x.timer(t, 5), 0);
        Due.due(what + ": bit behind all events but one", x.look(0) >> t & 1, 0);
        x.advance(1);
        Due.due(what + ": count at the end", x.timer(t, 0), period);
        Due.due(what + ": ended", x.timer(t, 5), 1);
        Due.due(what + ": bit", x.look(0) >> t & 1, 1);
    }

    /** "a COUNT 1 less; if that would be 0 it ENDS: COUNT becomes PERIOD". */
    private static void endsAtThePeriodthTick() {
        int[] periods = {1, 2, 3, 255, 256, 20000, 20001, 32768, 65534, 65535};
        for (int period : periods) {
            for (int t = 0; t < 8; t += 7) {
                notYetThenEnded("timer " + t + " of period " + period, running(t, 0, period, false), t, period);
            }
        }
    }

    /** The same where the SOURCE is 1: "the ENDS of TIMER t - 1". */
    private static void endsAtThePeriodthEnd() {
        int[] periods = {1, 2, 3, 65534, 65535};
        for (int period : periods) {
            for (int t = 1; t < 8; t++) {
                TimerGates x = running(t, 1, period, false);
                start(x, t - 1, 0, 1, false);
                notYetThenEnded("timer " + t + " of " + period + " ends", x, t, period);
            }
        }
    }

    /** "a COUNT (1 .. PERIOD)": never 0 and never above. */
    private static void countIsFrom1ToPeriod() {
        for (int period = 1; period <= 4; period++) {
            TimerGates x = running(4, 0, period, false);
            for (int tick = 1; tick <= 12; tick++) {
                x.advance(1);
                Due.due("count of period " + period + " in tick " + tick, x.timer(4, 0), period - tick % period);
            }
        }
    }

    /** "At an event of its SOURCE a TIMER that RUNS ..": one that does not has no COUNT less and no END. */
    private static void onlyOneThatRunsCounts() {
        TimerGates x = new TimerGates();
        x.set(0, 0, 1, false);
        x.set(1, 1, 3, false);
        x.set(2, 0, 3, false);
        x.turn(0, true);
        x.advance(9);
        Due.due("count of 1", x.timer(1, 0), 3);
        Due.due("count of 2", x.timer(2, 0), 3);
        Due.due("status", x.look(0), 1);
        x.turn(1, true);
        x.turn(2, true);
        x.advance(2);
        Due.due("count of 1, that runs", x.timer(1, 0), 1);
        Due.due("count of 2, that runs", x.timer(2, 0), 1);
        x.advance(1);
        Due.due("status, all run", x.look(0), 7);
    }

    /** "one that is ONCE does not RUN any more", from its END on, not before. */
    private static void onceDoesNotRunAnyMore() {
        for (int source = 0; source < 2; source++) {
            TimerGates x = running(3, source, 4, true);
            start(x, 2, 0, 1, false);
            x.advance(3);
            Due.due("runs before its end, source " + source, x.timer(3, 3), 1);
            x.advance(1);
            Due.due("does not run any more, source " + source, x.timer(3, 3), 0);
            Due.due("count is period, source " + source, x.timer(3, 0), 4);
            x.advance(9);
            Due.due("count stays, source " + source, x.timer(3, 0), 4);
            Due.due("one end, source " + source, x.timer(3, 5), 1);
            Due.due("still once, source " + source, x.timer(3, 4), 1);
        }
    }

    private static void notOnceGoesOn() {
        for (int source = 0; source < 2; source++) {
            TimerGates x = running(3, source, 4, false);
            start(x, 2, 0, 1, false);
            x.advance(4);
            Due.due("runs on, source " + source, x.timer(3, 3), 1);
            x.advance(3);
            Due.due("one end, source " + source, x.timer(3, 5), 1);
            x.advance(1);
            Due.due("two ends, source " + source, x.timer(3, 5), 2);
        }
    }

    /** "1: the ENDS of TIMER t - 1": of no other one, and not the TICKS. */
    private static void endsOfTheOneBeforeAlone() {
        for (int t = 1; t < 8; t++) {
            for (int other = 0; other < 8; other++) {
                if (other != t) {
                    TimerGates x = running(t, 1, 9, false);
                    start(x, other, 0, 1, false);
                    x.advance(5);
                    Due.due("count of " + t + " by ends of " + other, x.timer(t, 0), other == t - 1 ? 4 : 9);
                }
            }
        }
    }

    /** "or the END of the one before in this TICK": a chain of all eight ENDS in one. */
    private static void endOfTheOneBeforeInThisTick() {
        TimerGates x = running(0, 0, 2, false);
        for (int t = 1; t < 8; t++) {
            start(x, t, 1, 1, t % 2 == 0);
        }
        x.advance(1);
        Due.due("no end in the first tick", x.look(0), 0);
        x.advance(1);
        Due.due("all in the second", x.look(0), 255);
        x.clear(255);
        x.advance(1);
        Due.due("none in the third", x.look(0), 0);
        x.advance(1);
        Due.due("0 and 1 in the fourth, since 2 was once", x.look(0), 3);
    }

    /** A TIMER whose SOURCE is TICKS has one event a TICK, whether the one before ENDS or not. */
    private static void oneEventATick() {
        TimerGates x = running(5, 0, 9, false);
        start(x, 4, 0, 2, false);
        x.advance(1);
        Due.due("without an end of the one before", x.timer(5, 0), 8);
        x.advance(1);
        Due.due("with one", x.timer(5, 0), 7);
    }

    /** An END is an event of its own TICK alone. */
    private static void endedBeforeIsNoEventLater() {
        TimerGates x = running(0, 0, 1, true);
        x.advance(1);
        start(x, 1, 1, 1, false);
        x.advance(5);
        Due.due("no event by an end of before", x.timer(1, 5), 0);
        x.turn(0, true);
        x.advance(1);
        Due.due("an event by an end of now", x.timer(1, 5), 1);
    }

    /** "(if it is 1 already, the END is MISSED)". */
    private static void missedIfTheBitIs1Already() {
        for (int t = 0; t < 8; t++) {
            TimerGates x = running(t, 0, 3, false);
            x.advance(3);
            Due.due("the first end of " + t + " is not missed", x.timer(t, 6), 0);
            x.advance(2);
            Due.due("none missed between of " + t, x.timer(t, 6), 0);
            x.advance(1);
            Due.due("the second end of " + t + " is missed", x.timer(t, 6), 1);
            Due.due("the bit of " + t + " stays", x.look(0), 1 << t);
        }
    }

    private static void notMissedIfTheBitIs0Again() {
        TimerGates x = running(6, 0, 4, false);
        x.advance(4);
        x.clear(64);
        x.advance(4);
        Due.due("not missed when it was cleared", x.timer(6, 6), 0);
        x.gate(0, 64, 3);
        x.advance(4);
        Due.due("missed when it was served in that tick alone", x.timer(6, 6), 1);
        x.advance(4);
        Due.due("not missed when it was served before", x.timer(6, 6), 1);
        Due.due("ended", x.timer(6, 5), 4);
    }

    /** "then the TIMERS .. then the GATES": the END comes while the BIT is still 1, and both go by one service. */
    private static void missedInTheTickOfItsService() {
        TimerGates x = running(0, 0, 2, false);
        x.gate(0, 1, 2);
        x.advance(4);
        Due.due("missed", x.timer(0, 6), 1);
        Due.due("served", x.timer(0, 7), 1);
        Due.due("status", x.look(0), 0);
        Due.due("rests", x.gateOf(0, 1), 0);
    }

    /** A MISSED END counts as ENDED, starts anew, and is an event for the next one. */
    private static void missedOnesAreEndsToo() {
        TimerGates x = running(2, 0, 2, false);
        start(x, 3, 1, 5, false);
        x.advance(8);
        Due.due("ended", x.timer(2, 5), 4);
        Due.due("missed", x.timer(2, 6), 3);
        Due.due("count", x.timer(2, 0), 2);
        Due.due("count of the next one", x.timer(3, 0), 1);
        x.advance(2);
        Due.due("the next one ended", x.timer(3, 5), 1);
        start(x, 2, 0, 1, true);
        x.advance(3);
        Due.due("missed by one that is once", x.timer(2, 6), 5);
        Due.due("it does not run any more", x.timer(2, 3), 0);
    }

    /** "BIT t of STATUS becomes 1": the others stay as they are. */
    private static void bitOfTheTimerItself() {
        for (int t = 0; t < 8; t++) {
            TimerGates x = running(t, 0, 1, true);
            x.advance(1);
            Due.due("status by timer " + t, x.look(0), 1 << t);
            Due.raise(x, 255 - (1 << t));
            Due.due("status by all", x.look(0), 255);
            Due.due("missed of " + t, x.timer(t, 6), 0);
        }
    }
}
