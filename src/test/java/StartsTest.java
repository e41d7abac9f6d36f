/** The objects on which refused calls are tried are in the states that they are said to be in. */
public final class StartsTest {
    public static void main(String[] args) {
        busy(Due.busy());
        full(Due.full());
        Due.due("withStatus(165)", Due.withStatus(165).look(0), 165);
        Due.finish("StartsTest");
    }

    private static void busy(TimerGates x) {
        Due.due("busy: status", x.look(0), 6);
        Due.due("busy: served in all", x.look(2), 10);
        Due.due("busy: timer 0 runs", x.timer(0, 3), 1);
        Due.due("busy: timer 2 does not", x.timer(2, 3), 0);
        Due.due("busy: gate 0 waits", x.gateOf(0, 1), 2);
        Due.due("busy: gate 3 rests", x.gateOf(3, 1), 0);
    }

    private static void full(TimerGates x) {
        Due.due("full: status is not 0", x.look(0) != 0, true);
        Due.due("full: more than 16 served", x.look(2) > 16, true);
        for (int t = 0; t < 8; t++) {
            Due.due("full: timer " + t + " runs", x.timer(t, 3), 1);
        }
        for (int g = 0; g < 4; g++) {
            Due.due("full: gate " + g + " waits", x.gateOf(g, 1) > 0, true);
        }
    }
}
