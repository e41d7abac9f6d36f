/** Promise 5: clear. */
public final class ClearTest {
    public static void main(String[] args) {
        ordinary();
        gateThatWaitsGoesOn();
        clearedIsNotMissed();
        wrongInputs();
        Due.finish("ClearTest");
    }

    private static TimerGates withStatus(int status) {
        TimerGates x = new TimerGates();
        for (int t = 0; t < 8; t++) {
            if ((status >> t & 1) == 1) {
                x.set(t, 0, 1, true);
                x.turn(t, true);
            }
        }
        x.advance(1);
        return x;
    }

    private static void ordinary() {
        TimerGates x = withStatus(0b10110101);
        Due.due("status", x.look(0), 0b10110101);
        Due.due("clear(0)", x.clear(0), 0);
        Due.due("clear of those that are 0", x.clear(0b01001010), 0);
        Due.due("clear of some", x.clear(0b00001111), 0b00000101);
        Due.due("status then", x.look(0), 0b10110000);
        Due.due("clear of the same", x.clear(0b00001111), 0);
        Due.due("clear of all", x.clear(255), 0b10110000);
        Due.due("status at last", x.look(0), 0);
        for (int t = 0; t < 8; t++) {
            Due.due("cleared of " + t, x.timer(t, 8), 0b10110101 >> t & 1);
            Due.due("served of " + t, x.timer(t, 7), 0);
        }
        Due.due("served in all", x.look(2), 0);
        Due.due("served(0, 0)", x.served(0, 0), -1);
        TimerGates all = withStatus(255);
        Due.due("clear(255) of 255", all.clear(255), 255);
    }

    private static void gateThatWaitsGoesOn() {
        TimerGates x = withStatus(1);
        x.gate(0, 1, 3);
        x.advance(1);
        Due.due("clear(1)", x.clear(1), 1);
        Due.due("asks no more", x.gateOf(0, 0), 0);
        Due.due("waits on", x.gateOf(0, 1), 3);
        Due.due("advance(3)", x.advance(3), 0);
        Due.due("idle", x.gateOf(0, 5), 1);
        Due.due("nothing served", x.gateOf(0, 6), -1);
        Due.due("rests", x.gateOf(0, 1), 0);
    }

    private static void clearedIsNotMissed() {
        TimerGates x = withStatus(8);
        x.clear(8);
        x.turn(3, true);
        x.advance(1);
        Due.due("ended", x.timer(3, 5), 2);
        Due.due("missed", x.timer(3, 6), 0);
        x.turn(3, true);
        x.advance(1);
        Due.due("missed now", x.timer(3, 6), 1);
        x.clear(255);
        Due.due("cleared twice", x.timer(3, 8), 2);
    }

    private static void wrongInputs() {
        TimerGates x = withStatus(255);
        String before = Due.state(x);
        Due.due("clear(-1)", x.clear(-1), -1);
        Due.due("clear(256)", x.clear(256), -1);
        Due.due("clear(257)", x.clear(257), -1);
        Due.due("clear(511)", x.clear(511), -1);
        for (int w : Due.WILD) {
            Due.due("clear(" + w + ")", x.clear(w), -1);
        }
        Due.same("wrong clears", Due.state(x), before);
    }
}
