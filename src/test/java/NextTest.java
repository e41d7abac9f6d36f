/** Promise 7: next. */
public final class NextTest {
    public static void main(String[] args) {
        stopsBehindTheTickOfService();
        idleDoesNotStopIt();
        edges();
        wrongInputs();
        Due.finish("NextTest");
    }

    private static void stopsBehindTheTickOfService() {
        TimerGates x = new TimerGates();
        x.set(0, 0, 10, false);
        x.turn(0, true);
        x.gate(0, 1, 4);
        Due.due("next(100)", x.next(100), 14);
        Due.due("now", x.look(1), 14);
        Due.due("served at", x.served(0, 2), 14);
        Due.due("next(100) again", x.next(100), 10);
        Due.due("next(9): one too few", x.next(9), 9);
        Due.due("now", x.look(1), 33);
        Due.due("served in all", x.look(2), 2);
        Due.due("next(1): just enough", x.next(1), 1);
        Due.due("served in all", x.look(2), 3);
        Due.due("next(10): the service is in the last tick", x.next(10), 10);
        Due.due("served in all", x.look(2), 4);
    }

    private static void idleDoesNotStopIt() {
        TimerGates x = new TimerGates();
        x.set(0, 0, 1, true);
        x.turn(0, true);
        x.gate(0, 1, 5);
        x.advance(2);
        x.clear(1);
        Due.due("next(50)", x.next(50), 50);
        Due.due("idle", x.gateOf(0, 5), 1);
        Due.due("now", x.look(1), 52);
    }

    private static void edges() {
        TimerGates x = Due.busy();
        String before = Due.state(x);
        Due.due("next(0)", x.next(0), 0);
        Due.same("next(0)", Due.state(x), before);
        TimerGates y = new TimerGates();
        Due.due("next(20000)", y.next(20000), 20000);
        Due.due("now", y.look(1), 20000);
        TimerGates z = new TimerGates();
        z.turn(3, true);
        z.gate(2, 8, 1);
        Due.due("next(20000) with a service soon", z.next(20000), 2);
        Due.due("next(20000) once more", z.next(20000), 2);
    }

    private static void wrongInputs() {
        TimerGates x = Due.busy();
        String before = Due.state(x);
        Due.due("next(-1)", x.next(-1), -1);
        Due.due("next(20001)", x.next(20001), -1);
        for (int w : Due.WILD) {
            Due.due("next(" + w + ")", x.next(w), -1);
        }
        Due.same("wrong nexts", Due.state(x), before);
    }
}
