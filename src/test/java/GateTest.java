/** Promise 4: gate. */
public final class GateTest {
    public static void main(String[] args) {
        ordinaryAndEdges();
        goesOnWithWhatItHas();
        newDelayHoldsFromTheNextWait();
        maskHoldsAtOnce();
        keepsWhatWasCounted();
        wrongInputs();
        Due.finish("GateTest");
    }

    private static void ordinaryAndEdges() {
        TimerGates x = new TimerGates();
        int[] masks = {0, 255, 1, 128};
        int[] delays = {1, 1000, 2, 999};
        for (int g = 0; g < 4; g++) {
            Due.due("gate(" + g + ")", x.gate(g, masks[g], delays[g]), true);
        }
        for (int g = 0; g < 4; g++) {
            Due.due("mask of " + g, x.gateOf(g, 2), masks[g]);
            Due.due("delay of " + g, x.gateOf(g, 3), delays[g]);
            Due.due("gate " + g + " rests", x.gateOf(g, 1), 0);
        }
        Due.due("gate(1, 255, 1000) once more", x.gate(1, 255, 1000), true);
    }

    private static TimerGates waiting() {
        TimerGates x = new TimerGates();
        x.set(0, 0, 1, true);
        x.turn(0, true);
        x.gate(0, 1, 5);
        x.advance(3);
        return x;
    }

    private static void goesOnWithWhatItHas() {
        TimerGates x = waiting();
        Due.due("waits", x.gateOf(0, 1), 3);
        Due.due("gate(0, 1, 900)", x.gate(0, 1, 900), true);
        Due.due("waits on", x.gateOf(0, 1), 3);
        Due.due("delay is new", x.gateOf(0, 3), 900);
        Due.due("next(20)", x.next(20), 3);

        TimerGates y = waiting();
        y.gate(0, 2, 1);
        Due.due("waits on with another mask", y.gateOf(0, 1), 3);
        Due.due("asks no more", y.gateOf(0, 0), 0);
        Due.due("advance(2)", y.advance(2), 0);
        Due.due("not idle yet", y.gateOf(0, 5), 0);
        Due.due("advance(1)", y.advance(1), 0);
        Due.due("idle", y.gateOf(0, 5), 1);
        Due.due("rests", y.gateOf(0, 1), 0);
        Due.due("bit is still there", y.look(0), 1);
    }

    private static void newDelayHoldsFromTheNextWait() {
        TimerGates x = waiting();
        x.set(1, 0, 1, true);
        x.turn(1, true);
        x.gate(0, 3, 40);
        Due.due("next with what it has", x.next(100), 3);
        Due.due("waits for the new delay", x.gateOf(0, 1), 40);
        Due.due("next with the new delay", x.next(100), 40);
    }

    private static void maskHoldsAtOnce() {
        TimerGates x = new TimerGates();
        x.set(6, 0, 1, true);
        x.turn(6, true);
        x.advance(10);
        Due.due("does not ask", x.gateOf(2, 0), 0);
        x.gate(2, 64, 1);
        Due.due("asks", x.gateOf(2, 0), 1);
        Due.due("rests up to the next tick", x.gateOf(2, 1), 0);
        Due.due("next(9)", x.next(9), 2);
    }

    private static void keepsWhatWasCounted() {
        TimerGates x = waiting();
        x.advance(3);
        x.set(0, 0, 1, true);
        x.turn(0, true);
        x.advance(1);
        x.clear(1);
        x.advance(5);
        x.gate(0, 9, 9);
        Due.due("served stays", x.gateOf(0, 4), 1);
        Due.due("idle stays", x.gateOf(0, 5), 1);
        Due.due("latest stays", x.gateOf(0, 6), 6);
    }

    private static void wrongInputs() {
        TimerGates x = Due.busy();
        String before = Due.state(x);
        int[] noGate = {-1, 4, 5, 8, 32};
        for (int g : noGate) {
            Due.due("gate(" + g + ", 9, 9)", x.gate(g, 9, 9), false);
        }
        int[] noMask = {-1, 256, 257, 511, 512};
        for (int mask : noMask) {
            Due.due("gate(0, " + mask + ", 9)", x.gate(0, mask, 9), false);
        }
        int[] noDelay = {0, -1, 1001, 1002};
        for (int delay : noDelay) {
            Due.due("gate(0, 9, " + delay + ")", x.gate(0, 9, delay), false);
        }
        for (int w : Due.WILD) {
            Due.due("gate(" + w + ", 9, 9)", x.gate(w, 9, 9), false);
            Due.due("gate(0, " + w + ", 9)", x.gate(0, w, 9), false);
            Due.due("gate(0, 9, " + w + ")", x.gate(0, 9, w), false);
        }
        Due.same("wrong gates", Due.state(x), before);
    }
}
