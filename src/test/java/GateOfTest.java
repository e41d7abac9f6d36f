/** Promise 9: gateOf. */
public final class GateOfTest {
    public static void main(String[] args) {
        allOfOne();
        waitGoesDown();
        idleIsNoService();
        asksWhileItWaitsAndRests();
        latestOfItself();
        gatesAre0To3();
        whatsAre0To6();
        Due.finish("GateOfTest");
    }

    private static void due(String when, TimerGates x, int g, int... want) {
        for (int what = 0; what < 7; what++) {
            Due.due(when + ": gateOf(" + g + ", " + what + ")", x.gateOf(g, what), want[what]);
        }
    }

    private static void allOfOne() {
        TimerGates x = new TimerGates();
        x.set(4, 0, 6, false);
        x.turn(4, true);
        x.gate(2, 48, 3);
        due("at first", x, 2, 0, 0, 48, 3, 0, 0, -1);
        x.advance(6);
        due("at the end of 4", x, 2, 1, 3, 48, 3, 0, 0, -1);
        x.advance(2);
        due("nearly", x, 2, 1, 1, 48, 3, 0, 0, -1);
        x.advance(1);
        due("served", x, 2, 0, 0, 48, 3, 1, 0, 9);
        x.advance(4);
        x.clear(16);
        due("cleared", x, 2, 0, 2, 48, 3, 1, 0, 9);
        x.advance(2);
        due("idle", x, 2, 0, 0, 48, 3, 1, 1, 9);
        x.advance(6);
        due("served again", x, 2, 0, 0, 48, 3, 2, 1, 21);
        due("another gate", x, 1, 0, 0, 0, 1, 0, 0, -1);
    }

    /** "1: how long it WAITS (0: it rests)", from 1000 down to 1 and 0. */
    private static void waitGoesDown() {
        TimerGates x = waitingFor1000();
        int[] waits = {1000, 999, 998, 501, 500, 256, 255, 2, 1};
        for (int left : waits) {
            x.advance(x.gateOf(3, 1) - left);
            Due.due("waits", x.gateOf(3, 1), left);
            Due.due("now", x.look(1), 1001 - left);
            Due.due("nothing served", x.gateOf(3, 4), 0);
        }
        x.advance(1);
        Due.due("served", x.gateOf(3, 4), 1);
        Due.due("latest", x.gateOf(3, 6), 1001);
        Due.due("rests", x.gateOf(3, 1), 0);
    }

    private static TimerGates waitingFor1000() {
        TimerGates x = new TimerGates();
        x.turn(0, true);
        x.gate(3, 1, 1000);
        x.advance(1);
        return x;
    }

    private static void idleIsNoService() {
        TimerGates x = new TimerGates();
        x.turn(0, true);
        x.gate(0, 1, 1);
        x.gate(1, 1, 1);
        x.advance(20);
        due("the first takes all", x, 0, 0, 0, 1, 1, 10, 0, 20);
        due("the second is idle", x, 1, 0, 0, 1, 1, 0, 10, -1);
    }

    private static void asksWhileItWaitsAndRests() {
        TimerGates x = new TimerGates();
        x.set(7, 0, 1, true);
        x.turn(7, true);
        x.advance(1);
        x.gate(0, 128, 5);
        x.gate(1, 127, 5);
        due("asks at once", x, 0, 1, 0, 128, 5, 0, 0, -1);
        due("another mask", x, 1, 0, 0, 127, 5, 0, 0, -1);
        x.advance(1);
        due("asks while it waits", x, 0, 1, 5, 128, 5, 0, 0, -1);
        x.gate(0, 0, 5);
        due("asks for nothing", x, 0, 0, 5, 0, 5, 0, 0, -1);
    }

    /** "6 NOW of the latest it SERVED (NONE without one)": still NONE when it was IDLE, or another one SERVED. */
    private static void latestOfItself() {
        TimerGates x = new TimerGates();
        x.gate(1, 2, 1);
        x.gate(2, 4, 1);
        for (int g = 0; g < 4; g++) {
            Due.due("no latest of " + g, x.gateOf(g, 6), -1);
        }
        Due.raise(x, 6);
        x.clear(4);
        Due.due("none a tick before", x.gateOf(1, 6), -1);
        x.advance(1);
        Due.due("latest of 1", x.gateOf(1, 6), 2);
        Due.due("none of 2, that was idle", x.gateOf(2, 6), -1);
        Due.due("none of 0", x.gateOf(0, 6), -1);
        x.advance(5);
        Due.due("latest of 1 stays", x.gateOf(1, 6), 2);
        Due.raise(x, 2);
        x.clear(2);
        x.advance(1);
        Due.due("latest of 1 stays when it is idle", x.gateOf(1, 6), 2);
        Due.raise(x, 2);
        x.advance(1);
        Due.due("latest of 1 is later", x.gateOf(1, 6), 11);
    }

    /** "NONE if there is none such": g is 0 .. 3. */
    private static void gatesAre0To3() {
        int[] noGate = {-4, -1, 4, 5, 7, 8, 32};
        for (int what = 0; what < 7; what++) {
            int read = what;
            for (int g : noGate) {
                Due.none("gateOf(" + g + ", " + what + ")", x -> x.gateOf(g, read));
            }
            TimerGates x = Due.full();
            for (int g = 0; g < 4; g++) {
                Due.due("gateOf(" + g + ", " + what + ") is there", x.gateOf(g, what) >= 0, true);
            }
        }
    }

    /** "NONE if .. no such what": what is 0 .. 6. */
    private static void whatsAre0To6() {
        int[] noWhat = {-7, -1, 7, 8, 9, 255};
        for (int g = 0; g < 4; g++) {
            int gate = g;
            for (int what : noWhat) {
                Due.none("gateOf(" + g + ", " + what + ")", x -> x.gateOf(gate, what));
            }
        }
        for (int w : Due.WILD) {
            Due.none("gateOf(" + w + ", 3)", x -> x.gateOf(w, 3));
            Due.none("gateOf(0, " + w + ")", x -> x.gateOf(0, w));
            Due.none("gateOf(" + w + ", " + w + ")", x -> x.gateOf(w, w));
        }
    }
}
