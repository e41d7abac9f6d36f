/** "An object is used for at most 512 calls": right up to the last of them, and no throw behind it. */
public final class LimitsTest {
    public static void main(String[] args) {
        mostServices();
        mostMissed();
        mostIdle();
        mostOfTheCallsThatChange();
        beyondTheLastCall();
        Due.finish("LimitsTest");
    }

    /** 12 calls that set up, 494 that go on, 6 that look: 512. */
    private static void mostServices() {
        TimerGates x = new TimerGates();
        for (int t = 0; t < 8; t++) {
            x.turn(t, true);
        }
        for (int g = 0; g < 4; g++) {
            x.gate(g, 255, 1);
        }
        long sum = 0;
        for (int call = 0; call < 494; call++) {
            sum += x.advance(20000);
        }
        // Four bits a tick, but for the very first, in which the gates begin to wait.
        Due.due("served by all calls", sum, 494L * 20000 * 4 - 4);
        Due.due("look(2)", x.look(2), sum);
        Due.due("look(1)", x.look(1), 494 * 20000);
        Due.due("timer(0, 5)", x.timer(0, 5), 494 * 20000);
        Due.due("gateOf(3, 4)", x.gateOf(3, 4), 494 * 20000 - 1);
        Due.due("gateOf(3, 6)", x.gateOf(3, 6), 494 * 20000);
        Due.due("the 512th call: served(15, 2)", x.served(15, 2), 494 * 20000 - 3);
    }

    /** 1 call that sets up, 508 that go on, 3 that look: 512. */
    private static void mostMissed() {
        TimerGates x = new TimerGates();
        x.turn(7, true);
        for (int call = 0; call < 508; call++) {
            x.next(20000);
        }
        Due.due("timer(7, 5)", x.timer(7, 5), 508 * 20000);
        Due.due("timer(7, 6)", x.timer(7, 6), 508 * 20000 - 1);
        Due.due("the 512th call: look(1)", x.look(1), 508 * 20000);
    }

    /** 3 calls that set up, 504 that go on, 5 that look: 512. */
    private static void mostIdle() {
        TimerGates x = new TimerGates();
        x.turn(0, true);
        x.gate(0, 1, 1);
        x.gate(1, 1, 1);
        for (int call = 0; call < 504; call++) {
            x.advance(20000);
        }
        Due.due("gateOf(0, 4)", x.gateOf(0, 4), 504 * 10000);
        Due.due("gateOf(0, 5)", x.gateOf(0, 5), 0);
        Due.due("gateOf(1, 4)", x.gateOf(1, 4), 0);
        Due.due("gateOf(1, 5)", x.gateOf(1, 5), 504 * 10000);
        Due.due("the 512th call: gateOf(1, 6)", x.gateOf(1, 6), -1);
    }

    /** 102 times round with 5 calls, and 2 that look: 512. */
    private static void mostOfTheCallsThatChange() {
        TimerGates x = new TimerGates();
        for (int round = 1; round <= 102; round++) {
            Due.due("set, round " + round, x.set(3, 0, round, true), true);
            Due.due("turn, round " + round, x.turn(3, true), true);
            Due.due("gate, round " + round, x.gate(3, 0, round), true);
            Due.due("advance, round " + round, x.advance(round), 0);
            Due.due("clear, round " + round, x.clear(255), 8);
        }
        Due.due("timer(3, 8)", x.timer(3, 8), 102);
        Due.due("the 512th call: look(1)", x.look(1), 102 * 103 / 2);
    }

    /** "what later calls answer is free", but none throws or fails to end. */
    private static void beyondTheLastCall() {
        TimerGates x = Due.busy();
        for (int call = 0; call < 5000; call++) {
            x.advance(call % 50);
            x.served(call % 20, call % 4);
            x.clear(call % 300);
            x.turn(call % 9, call % 2 == 0);
            x.gate(call % 5, call % 257, call % 1002);
        }
    }
}
