/** Promise 4: gate. */
public final class GateTest {
    public static void main(String[] args) {
        ordinary();
        gatesAre0To3();
        masksAre0To255();
        delaysAre1To1000();
        goesOnWithWhatItHas();
        goesOnAtTheEdgesOfItsWait();
        oneThatRestsTakesTheNewDelay();
        newDelayHoldsFromTheNextWait();
        maskHoldsAtOnce();
        newMaskHoldsForTheServiceItself();
        keepsWhatWasCounted();
        wildInputs();
        Due.finish("GateTest");
    }

    private static void ordinary() {
        TimerGates x = new TimerGates();
        int[] masks = {0, 255, 1, 128};
        int[] delays = {1, 1000, 2, 999};
        for (int g = 0; g < 4; g++) {
            Due.due("gate(" + g + ")", x.gate(g, masks[g], delays[g]), true);
        }
        for (int g = 0; g < 4; g++) {
            Due.due("mask of " + g, x.gateOf(g, 2), masks[g]);
            Due.due("delay of " + g, x.gateOf(g, 3), delays[g]);
            Due.due("gate " + g + " rests", x.gateOf(g, 1), 0);
        }
        Due.due("gate(1, 255, 1000) once more", x.gate(1, 255, 1000), true);
    }

    /** "GATE g (0 .. 3)"; "false if there is none such". */
    private static void gatesAre0To3() {
        for (int g = 0; g < 4; g++) {
            TimerGates x = new TimerGates();
            Due.due("gate(" + g + ", 9, 7)", x.gate(g, 9, 7), true);
            for (int other = 0; other < 4; other++) {
                Due.due("mask of " + other + " behind gate " + g, x.gateOf(other, 2), other == g ? 9 : 0);
                Due.due("delay of " + other + " behind gate " + g, x.gateOf(other, 3), other == g ? 7 : 1);
            }
        }
        int[] noGate = {-4, -1, 4, 5, 7, 8, 32};
        for (int g : noGate) {
            Due.refused("gate(" + g + ", 9, 7)", x -> x.gate(g, 9, 7));
        }
    }

    /** "a MASK (0 .. 255 ..)"; "false if .. one of these is not as told". */
    private static void masksAre0To255() {
        int[] noMask = {-256, -1, 256, 257, 511, 512};
        for (int g = 0; g < 4; g++) {
            int gate = g;
            for (int mask = 0; mask <= 255; mask++) {
                TimerGates x = new TimerGates();
                Due.due("gate(" + g + ", " + mask + ", 7)", x.gate(g, mask, 7), true);
                Due.due("mask of " + g, x.gateOf(g, 2), mask);
            }
            for (int mask : noMask) {
                Due.refused("gate(" + g + ", " + mask + ", 7)", x -> x.gate(gate, mask, 7));
            }
        }
    }

    /** "a DELAY (1 .. 1000)"; "false if .. one of these is not as told". */
    private static void delaysAre1To1000() {
        int[] delays = {1, 2, 255, 256, 999, 1000};
        int[] noDelay = {-1000, -1, 0, 1001, 1002, 65535};
        for (int g = 0; g < 4; g++) {
            int gate = g;
            TimerGates x = new TimerGates();
            for (int delay : delays) {
                Due.due("gate(" + g + ", 9, " + delay + ")", x.gate(g, 9, delay), true);
                Due.due("delay of " + g, x.gateOf(g, 3), delay);
            }
            for (int delay : noDelay) {
                Due.refused("gate(" + g + ", 9, " + delay + ")", y -> y.gate(gate, 9, delay));
            }
        }
    }

    /** Gate 0 waits for bit 0, with 3 ticks to go. */
    private static TimerGates waiting() {
        TimerGates x = new TimerGates();
        x.set(0, 0, 1, true);
        x.turn(0, true);
        x.gate(0, 1, 5);
        x.advance(3);
        return x;
    }

    /** "(one that WAITS goes on with what it has)", by a greater and a lesser delay, and another mask. */
    private static void goesOnWithWhatItHas() {
        int[] delays = {1, 2, 3, 4, 5, 900, 1000};
        for (int delay : delays) {
            TimerGates x = waiting();
            Due.due("waits", x.gateOf(0, 1), 3);
            Due.due("gate(0, 1, " + delay + ")", x.gate(0, 1, delay), true);
            Due.due("waits on", x.gateOf(0, 1), 3);
            Due.due("delay is new", x.gateOf(0, 3), delay);
            Due.due("next(20)", x.next(20), 3);
        }
        int[] masks = {0, 2, 254};
        for (int mask : masks) {
            TimerGates y = waiting();
            y.gate(0, mask, 1);
            Due.due("waits on with another mask", y.gateOf(0, 1), 3);
            Due.due("asks no more", y.gateOf(0, 0), 0);
            Due.due("advance(2)", y.advance(2), 0);
            Due.due("not idle yet", y.gateOf(0, 5), 0);
            Due.due("advance(1)", y.advance(1), 0);
            Due.due("idle", y.gateOf(0, 5), 1);
            Due.due("rests", y.gateOf(0, 1), 0);
            Due.due("bit is still there", y.look(0), 1);
        }
    }

    /** "(one that WAITS goes on with what it has)", in the first and in the last tick of its wait. */
    private static void goesOnAtTheEdgesOfItsWait() {
        TimerGates x = Due.withStatus(3);
        x.gate(2, 3, 1000);
        x.advance(1);
        x.gate(2, 3, 1);
        Due.due("the whole wait is still there", x.gateOf(2, 1), 1000);
        Due.due("next(999)", x.next(999), 999);
        Due.due("nothing served", x.gateOf(2, 4), 0);
        Due.due("one tick to wait", x.gateOf(2, 1), 1);
        x.gate(2, 3, 1000);
        Due.due("still one tick to wait", x.gateOf(2, 1), 1);
        Due.due("served in the next tick", x.advance(1), 1);
        Due.due("then by the new delay", x.gateOf(2, 1), 1000);
    }

    /** "GATE g has this MASK and DELAY from now on": one that rests waits by the new one. */
    private static void oneThatRestsTakesTheNewDelay() {
        TimerGates x = Due.withStatus(1);
        x.gate(1, 1, 1000);
        x.gate(1, 1, 2);
        Due.due("still rests", x.gateOf(1, 1), 0);
        x.advance(1);
        Due.due("waits for the latest delay", x.gateOf(1, 1), 2);
        x.gate(1, 0, 2);
        x.advance(2);
        Due.due("idle", x.gateOf(1, 5), 1);
        x.gate(1, 1, 1);
        x.advance(1);
        Due.due("waits for 1", x.gateOf(1, 1), 1);
    }

    private static void newDelayHoldsFromTheNextWait() {
        TimerGates x = waiting();
        x.set(1, 0, 1, true);
        x.turn(1, true);
        x.gate(0, 3, 40);
        Due.due("next with what it has", x.next(100), 3);
        Due.due("waits for the new delay", x.gateOf(0, 1), 40);
        Due.due("next with the new delay", x.next(100), 40);
    }

    private static void maskHoldsAtOnce() {
        TimerGates x = new TimerGates();
        x.set(6, 0, 1, true);
        x.turn(6, true);
        x.advance(10);
        Due.due("does not ask", x.gateOf(2, 0), 0);
        x.gate(2, 64, 1);
        Due.due("asks", x.gateOf(2, 0), 1);
        Due.due("rests up to the next tick", x.gateOf(2, 1), 0);
        Due.due("next(9)", x.next(9), 2);
    }

    /** What is served is a bit of the mask as it is then, not as it was when the wait began. */
    private static void newMaskHoldsForTheServiceItself() {
        TimerGates x = Due.withStatus(0b10000001);
        x.gate(0, 1, 3);
        x.advance(1);
        x.gate(0, 128, 3);
        Due.due("next(9)", x.next(9), 3);
        Due.due("the bit", x.served(0, 0), 7);
        Due.due("status", x.look(0), 1);
        Due.due("rests", x.gateOf(0, 1), 0);
    }

    private static void keepsWhatWasCounted() {
        TimerGates x = waiting();
        x.advance(3);
        x.set(0, 0, 1, true);
        x.turn(0, true);
        x.advance(1);
        x.clear(1);
        x.advance(5);
        x.gate(0, 9, 9);
        Due.due("served stays", x.gateOf(0, 4), 1);
        Due.due("idle stays", x.gateOf(0, 5), 1);
        Due.due("latest stays", x.gateOf(0, 6), 6);
    }

    private static void wildInputs() {
        for (int w : Due.WILD) {
            Due.refused("gate(" + w + ", 9, 7)", x -> x.gate(w, 9, 7));
            Due.refused("gate(0, " + w + ", 7)", x -> x.gate(0, w, 7));
            Due.refused("gate(0, 9, " + w + ")", x -> x.gate(0, 9, w));
            Due.refused("gate(" + w + ", " + w + ", " + w + ")", x -> x.gate(w, w, w));
        }
    }
}
