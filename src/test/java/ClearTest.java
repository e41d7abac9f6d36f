/** Promise 5: clear. */
public final class ClearTest {
    public static void main(String[] args) {
        ordinary();
        everySetOfEveryStatus();
        emptySetChangesNothing();
        gateThatWaitsGoesOn();
        clearedIsNotMissed();
        setsAre0To255();
        Due.finish("ClearTest");
    }

    private static void ordinary() {
        TimerGates x = Due.withStatus(0b10110101);
        Due.due("status", x.look(0), 0b10110101);
        Due.due("clear(0)", x.clear(0), 0);
        Due.due("clear of those that are 0", x.clear(0b01001010), 0);
        Due.due("clear of some", x.clear(0b00001111), 0b00000101);
        Due.due("status then", x.look(0), 0b10110000);
        Due.due("clear of the same", x.clear(0b00001111), 0);
        Due.due("clear of all", x.clear(255), 0b10110000);
        Due.due("status at last", x.look(0), 0);
        for (int t = 0; t < 8; t++) {
            Due.due("cleared of " + t, x.timer(t, 8), 0b10110101 >> t & 1);
            Due.due("served of " + t, x.timer(t, 7), 0);
        }
        Due.due("served in all", x.look(2), 0);
        Due.due("served(0, 0)", x.served(0, 0), -1);
    }

    /** "BITS of a set become 0 in STATUS, those that are 1 are CLEARED: they." */
    private static void everySetOfEveryStatus() {
        for (int status = 0; status <= 255; status++) {
            for (int set = 0; set <= 255; set++) {
                TimerGates x = Due.withStatus(status);
                String call = "clear(" + set + ") of " + status;
                Due.due(call, x.clear(set), status & set);
                Due.due(call + ": look(0)", x.look(0), status & ~set);
                for (int t = 0; t < 8; t++) {
                    Due.due(call + ": timer(" + t + ", 8)", x.timer(t, 8), (status & set) >> t & 1);
                }
            }
        }
    }

    /** Nothing is CLEARED by an empty set, nor by one whose bits are all 0 in STATUS. */
    private static void emptySetChangesNothing() {
        Due.changesNothing("clear(0)", Due::full, x -> Due.due("clear(0)", x.clear(0), 0));
        Due.changesNothing("clear of those that are 0", Due::full,
            x -> Due.due("clear of those that are 0", x.clear(255 - x.look(0)), 0));
        Due.changesNothing("clear(255) of 0", TimerGates::new, x -> Due.due("clear(255) of 0", x.clear(255), 0));
    }

    private static void gateThatWaitsGoesOn() {
        TimerGates x = Due.withStatus(1);
        x.gate(0, 1, 3);
        x.advance(1);
        Due.due("clear(1)", x.clear(1), 1);
        Due.due("asks no more", x.gateOf(0, 0), 0);
        Due.due("waits on", x.gateOf(0, 1), 3);
        Due.due("advance(3)", x.advance(3), 0);
        Due.due("idle", x.gateOf(0, 5), 1);
        Due.due("nothing served", x.gateOf(0, 6), -1);
        Due.due("rests", x.gateOf(0, 1), 0);
    }

    private static void clearedIsNotMissed() {
        TimerGates x = Due.withStatus(8);
        x.clear(8);
        x.turn(3, true);
        x.advance(1);
        Due.due("ended", x.timer(3, 5), 2);
        Due.due("missed", x.timer(3, 6), 0);
        x.turn(3, true);
        x.advance(1);
        Due.due("missed now", x.timer(3, 6), 1);
        x.clear(255);
        Due.due("cleared twice", x.timer(3, 8), 2);
    }

    /** "NONE if it is not 0 .. 255", even where its lower bits are 1 in STATUS. */
    private static void setsAre0To255() {
        int[] noSet = {-256, -255, -1, 256, 257, 511, 512, 65535};
        for (int set : noSet) {
            Due.none("clear(" + set + ")", x -> x.clear(set));
            Due.changesNothing("clear(" + set + ") of 255", () -> Due.withStatus(255),
                x -> Due.due("clear(" + set + ") of 255", x.clear(set), -1));
        }
        for (int w : Due.WILD) {
            Due.none("clear(" + w + ")", x -> x.clear(w));
        }
    }
}
