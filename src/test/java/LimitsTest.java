/** The longest use that the document allows, and use beyond it, which may answer anything but may not throw. */
public final class LimitsTest {
    public static void main(String[] args) {
        dearestRun();
        beyondTheLastCall();
        Due.finish("LimitsTest");
    }

    private static void dearestRun() {
        TimerGates x = new TimerGates();
        for (int t = 0; t < 8; t++) {
            x.turn(t, true);
        }
        for (int g = 0; g < 4; g++) {
            x.gate(g, 255, 1);
        }
        long sum = 0;
        for (int call = 12; call < 508; call++) {
            sum += x.advance(20000);
        }
        // Four bits a tick, but for the very first, in which the gates begin to wait.
        Due.due("served by all calls", sum, 496L * 20000 * 4 - 4);
        Due.due("look(2)", x.look(2), sum);
        Due.due("look(1)", x.look(1), 496 * 20000);
        Due.due("timer(0, 5)", x.timer(0, 5), 496 * 20000);
        Due.due("served(15, 2)", x.served(15, 2), 496 * 20000 - 3);
    }

    private static void beyondTheLastCall() {
        TimerGates x = Due.busy();
        for (int call = 0; call < 5000; call++) {
            x.advance(call % 50);
            x.served(call % 20, call % 4);
            x.clear(call % 300);
        }
    }
}
