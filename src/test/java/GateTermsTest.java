/** Terms, the GATES: to ASK, to WAIT, to SERVE, IDLE, on both sides of each boundary (promises 6, 7, 9 and 11). */
public final class GateTermsTest {
    public static void main(String[] args) {
        asksByStatusAndMask();
        leastBitOfStatusInTheMask();
        oneBitAService();
        servesAtTheDelaythTick();
        bitOfThisTickIsServed();
        waitIsNotBegunAnew();
        idleWhenCleared();
        idleWhenAGateBeforeTookIt();
        idleIsNoBitServed();
        restsBehindIdle();
        lesserGateFirst();
        waitsOnlyIfItAsksBehindAllFour();
        justServedAndAsks();
        justServedAndALaterOneTookTheRest();
        servedInEachTickByDelay1();
        Due.finish("GateTermsTest");
    }

    /** "It ASKS as long as STATUS has a BIT that is in its MASK." */
    private static void asksByStatusAndMask() {
        for (int status = 0; status <= 255; status++) {
            TimerGates x = Due.withStatus(status);
            for (int mask = 0; mask <= 255; mask++) {
                x = mask % 128 == 0 ? Due.withStatus(status) : x;
                x.gate(mask % 4, mask, 1);
                Due.due("gate of " + mask + " asks at " + status, x.gateOf(mask % 4, 0), (status & mask) == 0 ? 0 : 1);
            }
        }
    }

    /** "the least BIT of STATUS that is in its MASK becomes 0, and is SERVED", for every STATUS and MASK. */
    private static void leastBitOfStatusInTheMask() {
        for (int status = 0; status <= 255; status++) {
            for (int mask = 0; mask <= 255; mask++) {
                TimerGates x = Due.withStatus(status);
                x.gate(1, mask, 1);
                int both = status & mask;
                String by = "mask " + mask + " at " + status;
                Due.due(by + ": advance(2)", x.advance(2), both == 0 ? 0 : 1);
                Due.due(by + ": served(0, 0)", x.served(0, 0), both == 0 ? -1 : Integer.numberOfTrailingZeros(both));
                Due.due(by + ": look(0)", x.look(0), status - (both & -both));
                Due.due(by + ": idle", x.gateOf(1, 5), 0);
            }
        }
    }

    private static void oneBitAService() {
        TimerGates x = Due.withStatus(255);
        x.gate(0, 255, 1);
        x.advance(1);
        for (int bit = 0; bit < 8; bit++) {
            Due.due("one bit in the tick of " + bit, x.advance(1), 1);
            Due.due("status behind " + bit, x.look(0), 255 & -2 << bit);
        }
        Due.due("none is left", x.advance(9), 0);
        Due.due("never idle", x.gateOf(0, 5), 0);
    }

    /** "each that WAITS has 1 less to WAIT, and if that is 0 it SERVES": not a tick before. */
    private static void servesAtTheDelaythTick() {
        int[] delays = {1, 2, 3, 999, 1000};
        for (int delay : delays) {
            for (int g = 0; g < 4; g++) {
                TimerGates x = new TimerGates();
                x.gate(g, 32, delay);
                Due.raise(x, 32);
                String by = "gate " + g + " of delay " + delay;
                Due.due(by + " waits from the tick of the end", x.gateOf(g, 1), delay);
                Due.due(by + ": a tick too few", x.advance(delay - 1), 0);
                Due.due(by + " has one to wait", x.gateOf(g, 1), 1);
                Due.due(by + ": the bit is still 1", x.look(0), 32);
                Due.due(by + " serves", x.advance(1), 1);
                Due.due(by + ": the bit is 0", x.look(0), 0);
                Due.due(by + " rests", x.gateOf(g, 1), 0);
            }
        }
    }

    /** "then the TIMERS .. then the GATES": a lesser BIT that comes up in the very TICK is the one SERVED. */
    private static void bitOfThisTickIsServed() {
        TimerGates x = new TimerGates();
        x.gate(3, 3, 2);
        Due.raise(x, 2);
        x.advance(1);
        Due.raise(x, 1);
        Due.due("bit 0, of this tick", x.served(0, 0), 0);
        Due.due("status", x.look(0), 2);
        TimerGates y = new TimerGates();
        y.gate(3, 3, 2);
        Due.raise(y, 2);
        y.advance(2);
        Due.raise(y, 1);
        Due.due("bit 1, a tick before", y.served(0, 0), 1);
        Due.due("status", y.look(0), 1);
    }

    /** "each that ASKS, and rests or has just SERVED, WAITS for its DELAY": not one that WAITS. */
    private static void waitIsNotBegunAnew() {
        TimerGates x = new TimerGates();
        x.gate(0, 255, 6);
        Due.raise(x, 16);
        for (int left = 5; left > 0; left--) {
            Due.raise(x, 1 << left);
            Due.due("waits on", x.gateOf(0, 1), left);
        }
        Due.due("served", x.advance(1), 1);
    }

    /** "if it does not ASK, it is IDLE": one whose BIT was CLEARED, but not one whose BIT is up again. */
    private static void idleWhenCleared() {
        TimerGates x = new TimerGates();
        x.gate(0, 1, 3);
        Due.raise(x, 1);
        x.advance(2);
        x.clear(1);
        Due.due("nothing served", x.advance(1), 0);
        Due.due("idle", x.gateOf(0, 5), 1);
        TimerGates y = new TimerGates();
        y.gate(0, 1, 3);
        Due.raise(y, 1);
        y.clear(1);
        Due.raise(y, 1);
        Due.due("waits since it first asked", y.gateOf(0, 1), 2);
        Due.due("served", y.advance(2), 1);
        Due.due("not idle", y.gateOf(0, 5), 0);
    }

    private static void idleWhenAGateBeforeTookIt() {
        for (int first = 0; first < 3; first++) {
            for (int second = first + 1; second < 4; second++) {
                TimerGates x = new TimerGates();
                x.gate(second, 8, 2);
                x.gate(first, 8, 2);
                Due.raise(x, 8);
                Due.due("one bit", x.advance(2), 1);
                Due.due("by " + first, x.served(0, 1), first);
                Due.due(first + " is not idle", x.gateOf(first, 5), 0);
                Due.due(second + " is idle", x.gateOf(second, 5), 1);
            }
        }
    }

    /** One that was IDLE has SERVED no BIT: no count, no "latest" and no row of served is by it. */
    private static void idleIsNoBitServed() {
        TimerGates x = new TimerGates();
        x.gate(2, 1, 4);
        Due.raise(x, 1);
        x.clear(1);
        Due.due("next(9) goes by", x.next(9), 9);
        Due.due("idle", x.gateOf(2, 5), 1);
        Due.due("bits served by it", x.gateOf(2, 4), 0);
        Due.due("no latest", x.gateOf(2, 6), -1);
        Due.due("served in all", x.look(2), 0);
        Due.due("no row", x.served(0, 0), -1);
        Due.due("served of its timer", x.timer(0, 7), 0);
    }

    /** One that was IDLE rests, and by the next BIT WAITS anew for its whole DELAY. */
    private static void restsBehindIdle() {
        TimerGates x = new TimerGates();
        x.gate(2, 3, 4);
        Due.raise(x, 1);
        x.clear(1);
        x.advance(4);
        Due.due("rests", x.gateOf(2, 1), 0);
        x.advance(4);
        Due.due("idle but once", x.gateOf(2, 5), 1);
        Due.raise(x, 2);
        Due.due("waits anew", x.gateOf(2, 1), 4);
        Due.due("serves", x.next(9), 4);
    }

    /** "then the GATES, from 0 to 3". */
    private static void lesserGateFirst() {
        TimerGates x = new TimerGates();
        for (int g = 3; g >= 0; g--) {
            x.gate(g, 255, 2);
        }
        Due.raise(x, 0b11101000);
        Due.due("four bits in a tick", x.advance(2), 4);
        int[] bits = {3, 5, 6, 7};
        for (int g = 0; g < 4; g++) {
            Due.due("bit of gate " + g, x.served(3 - g, 0), bits[g]);
            Due.due("gate of bit " + bits[g], x.served(3 - g, 1), g);
        }
        TimerGates y = new TimerGates();
        for (int g = 0; g < 4; g++) {
            y.gate(g, 255, 2);
        }
        Due.raise(y, 0b00101000);
        Due.due("two bits in a tick", y.advance(2), 2);
        for (int g = 0; g < 4; g++) {
            Due.due("idle of gate " + g, y.gateOf(g, 5), g < 2 ? 0 : 1);
        }
    }

    /** "behind all four, by STATUS as it is then": one that rests does not WAIT for what a GATE took in this TICK. */
    private static void waitsOnlyIfItAsksBehindAllFour() {
        for (int server = 0; server < 4; server++) {
            for (int other = 0; other < 4; other++) {
                if (other != server) {
                    restsIfTheBitIsTaken(server, other);
                }
            }
        }
    }

    private static void restsIfTheBitIsTaken(int server, int other) {
        String by = "gate " + other + " beside " + server;
        TimerGates x = new TimerGates();
        x.gate(server, 1, 1);
        Due.raise(x, 1);
        x.gate(other, 1, 9);
        Due.due(by + " asks", x.gateOf(other, 0), 1);
        Due.due(by + ": the bit is taken", x.advance(1), 1);
        Due.due(by + " rests on", x.gateOf(other, 1), 0);
        x.advance(20);
        Due.due(by + " was never idle", x.gateOf(other, 5), 0);

        TimerGates y = new TimerGates();
        y.gate(server, 1, 1);
        Due.raise(y, 3);
        y.gate(other, 3, 9);
        Due.due(by + ": one of two bits is taken", y.advance(1), 1);
        Due.due(by + " waits for the other", y.gateOf(other, 1), 9);
    }

    /** "each that .. has just SERVED, WAITS for its DELAY; each that has just SERVED and does not ASK rests". */
    private static void justServedAndAsks() {
        TimerGates x = new TimerGates();
        x.gate(1, 6, 5);
        Due.raise(x, 7);
        x.advance(5);
        Due.due("asks on", x.gateOf(1, 0), 1);
        Due.due("waits for its delay", x.gateOf(1, 1), 5);
        Due.due("nothing in four ticks", x.advance(4), 0);
        Due.due("the other in the fifth", x.advance(1), 1);
        Due.due("does not ask", x.gateOf(1, 0), 0);
        Due.due("rests", x.gateOf(1, 1), 0);
        x.advance(9);
        Due.due("never idle", x.gateOf(1, 5), 0);
        Due.due("a bit outside its mask stays", x.look(0), 1);
    }

    private static void justServedAndALaterOneTookTheRest() {
        TimerGates x = new TimerGates();
        x.gate(0, 3, 2);
        x.gate(3, 2, 2);
        Due.raise(x, 3);
        Due.due("both serve", x.advance(2), 2);
        Due.due("gate 0 does not wait for what gate 3 took", x.gateOf(0, 1), 0);
        Due.due("gate 0 does not ask", x.gateOf(0, 0), 0);
        x.advance(9);
        Due.due("gate 0 was never idle", x.gateOf(0, 5), 0);
    }

    /** With DELAY 1 a GATE that ASKS on SERVES in each TICK, and one whose BIT comes each TICK in every second. */
    private static void servedInEachTickByDelay1() {
        TimerGates x = new TimerGates();
        x.turn(0, true);
        x.gate(0, 1, 1);
        for (int tick = 1; tick <= 8; tick++) {
            Due.due("one bit, tick " + tick, x.advance(1), tick % 2 == 0 ? 1 : 0);
        }
        TimerGates y = new TimerGates();
        y.turn(0, true);
        y.turn(1, true);
        y.gate(0, 3, 1);
        for (int tick = 1; tick <= 8; tick++) {
            Due.due("two bits, tick " + tick, y.advance(1), tick == 1 ? 0 : 1);
        }
    }
}
