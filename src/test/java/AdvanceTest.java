/** Promise 6: advance, and what a TICK does. */
public final class AdvanceTest {
    public static void main(String[] args) {
        chainOfEndsInOneTick();
        onceEndStillCountsForTheNext();
        leastBitFirst();
        gatesInTheirOrder();
        waitIsSetByStatusBehindAllFour();
        manyServedInOneTick();
        noTick();
        oneTick();
        mostTicks();
        manyTicksAreAsManyByOne();
        idleIsNotCounted();
        ticksAre0To20000();
        Due.finish("AdvanceTest");
    }

    private static void chainOfEndsInOneTick() {
        TimerGates x = new TimerGates();
        x.set(0, 0, 2, false);
        x.turn(0, true);
        for (int t = 1; t < 8; t++) {
            x.set(t, 1, 1, false);
            x.turn(t, true);
        }
        x.set(4, 1, 3, false);
        x.turn(4, true);
        x.advance(1);
        Due.due("no end yet", x.look(0), 0);
        x.advance(1);
        Due.due("ends of 0 to 3 in one tick", x.look(0), 15);
        x.advance(4);
        Due.due("ends of all", x.look(0), 255);
        Due.due("ended 7", x.timer(7, 5), 1);
        Due.due("ended 3", x.timer(3, 5), 3);
        Due.due("missed 3", x.timer(3, 6), 2);
        x.turn(2, false);
        x.advance(12);
        Due.due("ended 1", x.timer(1, 5), 9);
        Due.due("ended 2, that does not run", x.timer(2, 5), 3);
        Due.due("ended 3, behind it", x.timer(3, 5), 3);
    }

    private static void onceEndStillCountsForTheNext() {
        TimerGates x = new TimerGates();
        x.set(5, 0, 4, true);
        x.set(6, 1, 1, true);
        x.set(7, 1, 2, false);
        x.turn(5, true);
        x.turn(6, true);
        x.turn(7, true);
        x.advance(50);
        Due.due("status", x.look(0), 32 + 64);
        Due.due("count of 7", x.timer(7, 0), 1);
        Due.due("5 does not run", x.timer(5, 3), 0);
        Due.due("6 does not run", x.timer(6, 3), 0);
        Due.due("count of 5 is its period", x.timer(5, 0), 4);
    }

    private static void leastBitFirst() {
        TimerGates x = Due.withStatus(255);
        x.gate(0, 0b11010110, 1);
        int[] want = {1, 2, 4, 6, 7};
        Due.due("tick in which it begins to wait", x.advance(1), 0);
        for (int bit : want) {
            Due.due("a bit a tick", x.advance(1), 1);
            Due.due("the bit", x.served(0, 0), bit);
        }
        Due.due("the gate rests", x.gateOf(0, 1), 0);
        Due.due("never idle", x.gateOf(0, 5), 0);
        Due.due("status", x.look(0), 0b00101001);
    }

    private static void gatesInTheirOrder() {
        TimerGates x = Due.withStatus(255);
        for (int g = 0; g < 4; g++) {
            x.gate(g, 255, 3);
        }
        Due.due("advance(3)", x.advance(3), 0);
        Due.due("advance(1)", x.advance(1), 4);
        for (int g = 0; g < 4; g++) {
            Due.due("bit of gate " + g, x.served(3 - g, 0), g);
            Due.due("its gate " + g, x.served(3 - g, 1), g);
            Due.due("its now " + g, x.served(3 - g, 2), 5);
        }
    }

    private static void waitIsSetByStatusBehindAllFour() {
        TimerGates x = new TimerGates();
        x.set(0, 0, 1, true);
        x.set(1, 0, 1, true);
        x.turn(0, true);
        x.turn(1, true);
        x.gate(0, 3, 1);
        x.gate(3, 2, 1);
        x.advance(1);
        Due.due("both serve", x.advance(1), 2);
        Due.due("gate 0 does not wait for what gate 3 took", x.gateOf(0, 1), 0);
        Due.due("advance(5)", x.advance(5), 0);
        Due.due("gate 0 not idle", x.gateOf(0, 5), 0);

        TimerGates y = new TimerGates();
        y.set(0, 0, 1, true);
        y.turn(0, true);
        y.gate(1, 1, 2);
        y.advance(2);
        y.gate(0, 1, 1);
        Due.due("gate 1 serves", y.advance(1), 1);
        Due.due("gate 0 rests on", y.gateOf(0, 1), 0);
        Due.due("gate 0 was not idle", y.gateOf(0, 5), 0);
    }

    private static void manyServedInOneTick() {
        TimerGates x = Due.withStatus(255);
        for (int g = 0; g < 4; g++) {
            x.gate(g, 3 << 2 * g, 1);
        }
        Due.due("advance(10)", x.advance(10), 8);
        Due.due("status", x.look(0), 0);
        Due.due("now", x.look(1), 11);
    }

    /** "n TICKS (0 .. 20000)": 0 of them change nothing, whatever is about to happen. */
    private static void noTick() {
        Due.changesNothing("advance(0)", TimerGates::new, x -> Due.due("advance(0)", x.advance(0), 0));
        Due.changesNothing("advance(0)", Due::busy, x -> Due.due("advance(0)", x.advance(0), 0));
        Due.changesNothing("advance(0)", Due::full, x -> Due.due("advance(0)", x.advance(0), 0));
        TimerGates x = new TimerGates();
        x.gate(0, 1, 1);
        Due.raise(x, 1);
        Due.due("advance(0) a tick before a service", x.advance(0), 0);
        Due.due("advance(1)", x.advance(1), 1);
    }

    private static void oneTick() {
        TimerGates x = new TimerGates();
        x.turn(7, true);
        Due.due("advance(1)", x.advance(1), 0);
        Due.due("now", x.look(1), 1);
        Due.due("ended", x.timer(7, 5), 1);
    }

    /** "n TICKS (0 .. 20000)", with the services in the very last of them, and behind it. */
    private static void mostTicks() {
        TimerGates x = new TimerGates();
        x.turn(0, true);
        x.gate(0, 1, 1);
        Due.due("advance(20000)", x.advance(20000), 10000);
        Due.due("now", x.look(1), 20000);
        Due.due("ended", x.timer(0, 5), 20000);
        Due.due("advance(19999)", x.advance(19999), 9999);
        Due.due("now", x.look(1), 39999);

        TimerGates last = new TimerGates();
        last.set(0, 0, 19999, true);
        last.turn(0, true);
        last.gate(0, 1, 1);
        Due.due("advance(20000), a service in the last tick", last.advance(20000), 1);
        TimerGates behind = new TimerGates();
        behind.set(0, 0, 20000, true);
        behind.turn(0, true);
        behind.gate(0, 1, 1);
        Due.due("advance(20000), a service behind it", behind.advance(20000), 0);
        Due.due("advance(1)", behind.advance(1), 1);
    }

    private static void manyTicksAreAsManyByOne() {
        TimerGates x = Due.busy();
        TimerGates byOnes = Due.busy();
        int sum = 0;
        for (int i = 0; i < 300; i++) {
            sum += byOnes.advance(1);
        }
        Due.due("advance(300)", x.advance(300), sum);
        Due.same("advance(300)", Due.state(x), Due.state(byOnes));
    }

    /** "how often a GATE has SERVED a BIT": one that was IDLE has not. */
    private static void idleIsNotCounted() {
        TimerGates x = new TimerGates();
        x.gate(0, 1, 1);
        x.gate(1, 1, 1);
        Due.raise(x, 1);
        Due.due("one serves, one is idle", x.advance(1), 1);
        Due.due("idle", x.gateOf(1, 5), 1);
    }

    /** "NONE for another n." */
    private static void ticksAre0To20000() {
        int[] noCount = {-20000, -1, 20001, 20002, 40000, 65536};
        for (int n : noCount) {
            Due.none("advance(" + n + ")", x -> x.advance(n));
        }
        for (int w : Due.WILD) {
            Due.none("advance(" + w + ")", x -> x.advance(w));
        }
    }
}
