/** Promise 7: next. */
public final class NextTest {
    public static void main(String[] args) {
        stopsBehindTheTickOfService();
        wholeTickIsDone();
        idleDoesNotStopIt();
        endDoesNotStopIt();
        noTick();
        mostTicks();
        nextIsAdvanceByAsMany();
        ticksAre0To20000();
        Due.finish("NextTest");
    }

    private static void stopsBehindTheTickOfService() {
        TimerGates x = new TimerGates();
        x.set(0, 0, 10, false);
        x.turn(0, true);
        x.gate(0, 1, 4);
        Due.due("next(100)", x.next(100), 14);
        Due.due("now", x.look(1), 14);
        Due.due("served at", x.served(0, 2), 14);
        Due.due("next(100) again", x.next(100), 10);
        Due.due("next(9): one too few", x.next(9), 9);
        Due.due("now", x.look(1), 33);
        Due.due("served in all", x.look(2), 2);
        Due.due("next(1): just enough", x.next(1), 1);
        Due.due("served in all", x.look(2), 3);
        Due.due("next(10): the service is in the last tick", x.next(10), 10);
        Due.due("served in all", x.look(2), 4);
    }

    /** "up to one in which a BIT is SERVED": by each gate that serves in it, not by the first alone. */
    private static void wholeTickIsDone() {
        TimerGates x = Due.withStatus(15);
        for (int g = 0; g < 4; g++) {
            x.gate(g, 1 << g, 3);
        }
        Due.due("next(9)", x.next(9), 4);
        Due.due("all four served", x.look(2), 4);
        Due.due("status", x.look(0), 0);
    }

    /** "up to one in which a BIT is SERVED": one in which a GATE is IDLE is none such. */
    private static void idleDoesNotStopIt() {
        TimerGates x = new TimerGates();
        x.set(0, 0, 1, true);
        x.turn(0, true);
        x.gate(0, 1, 5);
        x.advance(2);
        x.clear(1);
        Due.due("next(50)", x.next(50), 50);
        Due.due("idle", x.gateOf(0, 5), 1);
        Due.due("now", x.look(1), 52);
    }

    private static void endDoesNotStopIt() {
        TimerGates x = new TimerGates();
        x.turn(0, true);
        Due.due("next(30)", x.next(30), 30);
        Due.due("ended", x.timer(0, 5), 30);
    }

    /** "but at most n (0 .. 20000)": 0 of them change nothing, even a TICK before a service. */
    private static void noTick() {
        Due.changesNothing("next(0)", TimerGates::new, x -> Due.due("next(0)", x.next(0), 0));
        Due.changesNothing("next(0)", Due::busy, x -> Due.due("next(0)", x.next(0), 0));
        Due.changesNothing("next(0)", Due::full, x -> Due.due("next(0)", x.next(0), 0));
        TimerGates x = new TimerGates();
        x.gate(0, 1, 1);
        Due.raise(x, 1);
        Due.due("next(0) a tick before a service", x.next(0), 0);
        Due.due("now", x.look(1), 1);
        Due.due("next(1)", x.next(1), 1);
        Due.due("served in all", x.look(2), 1);
        Due.due("next(0) behind a service", x.next(0), 0);
    }

    /** "but at most n (0 .. 20000)": without a service, with one in the last TICK, and with one behind it. */
    private static void mostTicks() {
        TimerGates without = new TimerGates();
        Due.due("next(20000) without a service", without.next(20000), 20000);
        Due.due("now", without.look(1), 20000);

        TimerGates soon = new TimerGates();
        soon.turn(3, true);
        soon.gate(2, 8, 1);
        Due.due("next(20000) with a service soon", soon.next(20000), 2);
        Due.due("next(20000) once more", soon.next(20000), 2);
        Due.due("now", soon.look(1), 4);

        TimerGates last = servedAt(20000);
        Due.due("next(20000), a service in the last tick", last.next(20000), 20000);
        Due.due("served in all", last.look(2), 1);

        TimerGates behind = servedAt(20001);
        Due.due("next(20000), a service behind it", behind.next(20000), 20000);
        Due.due("served in all", behind.look(2), 0);
        Due.due("next(20000) from there", behind.next(20000), 1);
        Due.due("served in all", behind.look(2), 1);

        TimerGates before = servedAt(19999);
        Due.due("next(20000), a service in the last tick but one", before.next(20000), 19999);
        Due.due("now", before.look(1), 19999);
    }

    private static TimerGates servedAt(int tick) {
        TimerGates x = new TimerGates();
        x.set(5, 0, tick - 1, true);
        x.turn(5, true);
        x.gate(1, 32, 1);
        return x;
    }

    private static void nextIsAdvanceByAsMany() {
        TimerGates x = Due.full();
        TimerGates y = Due.full();
        int ticks = 0;
        for (int i = 0; i < 20; i++) {
            ticks += x.next(7);
        }
        y.advance(ticks);
        Due.same("20 times next(7)", Due.state(x), Due.state(y));
    }

    /** "NONE for another n." */
    private static void ticksAre0To20000() {
        int[] noCount = {-20000, -1, 20001, 20002, 40000, 65536};
        for (int n : noCount) {
            Due.none("next(" + n + ")", x -> x.next(n));
        }
        for (int w : Due.WILD) {
            Due.none("next(" + w + ")", x -> x.next(w));
        }
    }
}
