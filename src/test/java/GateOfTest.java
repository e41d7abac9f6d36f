/** Promise 9: gateOf. */
public final class GateOfTest {
    public static void main(String[] args) {
        allOfOne();
        waitGoesDown();
        idleIsNoService();
        asksWhileItWaitsAndRests();
        wrongInputs();
        Due.finish("GateOfTest");
    }

    private static void due(String when, TimerGates x, int g, int... want) {
        for (int what = 0; what < 7; what++) {
            Due.due(when + ": gateOf(" + g + ", " + what + ")", x.gateOf(g, what), want[what]);
        }
    }

    private static void allOfOne() {
        TimerGates x = new TimerGates();
        x.set(4, 0, 6, false);
        x.turn(4, true);
        x.gate(2, 48, 3);
        due("at first", x, 2, 0, 0, 48, 3, 0, 0, -1);
        x.advance(6);
        due("at the end of 4", x, 2, 1, 3, 48, 3, 0, 0, -1);
        x.advance(2);
        due("nearly", x, 2, 1, 1, 48, 3, 0, 0, -1);
        x.advance(1);
        due("served", x, 2, 0, 0, 48, 3, 1, 0, 9);
        x.advance(4);
        x.clear(16);
        due("cleared", x, 2, 0, 2, 48, 3, 1, 0, 9);
        x.advance(2);
        due("idle", x, 2, 0, 0, 48, 3, 1, 1, 9);
        x.advance(6);
        due("served again", x, 2, 0, 0, 48, 3, 2, 1, 21);
        due("another gate", x, 1, 0, 0, 0, 1, 0, 0, -1);
    }

    private static void waitGoesDown() {
        TimerGates x = new TimerGates();
        x.turn(0, true);
        x.gate(3, 1, 1000);
        x.advance(1);
        for (int left = 1000; left > 0; left--) {
            Due.due("waits", x.gateOf(3, 1), left);
            x.advance(1);
        }
        Due.due("served", x.gateOf(3, 4), 1);
        Due.due("latest", x.gateOf(3, 6), 1001);
        Due.due("rests", x.gateOf(3, 1), 0);
    }

    private static void idleIsNoService() {
        TimerGates x = new TimerGates();
        x.turn(0, true);
        x.gate(0, 1, 1);
        x.gate(1, 1, 1);
        x.advance(20);
        due("the first takes all", x, 0, 0, 0, 1, 1, 10, 0, 20);
        due("the second is idle", x, 1, 0, 0, 1, 1, 0, 10, -1);
    }

    private static void asksWhileItWaitsAndRests() {
        TimerGates x = new TimerGates();
        x.set(7, 0, 1, true);
        x.turn(7, true);
        x.advance(1);
        x.gate(0, 128, 5);
        x.gate(1, 127, 5);
        due("asks at once", x, 0, 1, 0, 128, 5, 0, 0, -1);
        due("another mask", x, 1, 0, 0, 127, 5, 0, 0, -1);
        x.advance(1);
        due("asks while it waits", x, 0, 1, 5, 128, 5, 0, 0, -1);
        x.gate(0, 0, 5);
        due("asks for nothing", x, 0, 0, 5, 0, 5, 0, 0, -1);
    }

    private static void wrongInputs() {
        TimerGates x = Due.busy();
        String before = Due.state(x);
        int[] noGate = {-1, 4, 5, 8};
        for (int g : noGate) {
            for (int what = 0; what < 7; what++) {
                Due.due("gateOf(" + g + ", " + what + ")", x.gateOf(g, what), -1);
            }
        }
        for (int g = 0; g < 4; g++) {
            Due.due("gateOf(" + g + ", -1)", x.gateOf(g, -1), -1);
            Due.due("gateOf(" + g + ", 7)", x.gateOf(g, 7), -1);
        }
        for (int w : Due.WILD) {
            Due.due("gateOf(" + w + ", 3)", x.gateOf(w, 3), -1);
            Due.due("gateOf(0, " + w + ")", x.gateOf(0, w), -1);
            Due.due("gateOf(" + w + ", " + w + ")", x.gateOf(w, w), -1);
        }
        Due.same("reads of gates", Due.state(x), before);
    }
}
