/** Promise 1: a new object is as at first. */
public final class NewObjectTest {
    public static void main(String[] args) {
        TimerGates x = new TimerGates();
        timersAtFirst(x);
        gatesAtFirst(x);
        restAtFirst(x);
        nothingHappensByItself();
        objectsAreApart();
        Due.due("NONE", TimerGates.NONE, -1);
        Due.finish("NewObjectTest");
    }

    private static void timersAtFirst(TimerGates x) {
        int[] want = {1, 1, 0, 0, 0, 0, 0, 0, 0};
        for (int t = 0; t < 8; t++) {
            for (int what = 0; what < 9; what++) {
                Due.due("new: timer(" + t + ", " + what + ")", x.timer(t, what), want[what]);
            }
        }
    }

    private static void gatesAtFirst(TimerGates x) {
        int[] want = {0, 0, 0, 1, 0, 0, -1};
        for (int g = 0; g < 4; g++) {
            for (int what = 0; what < 7; what++) {
                Due.due("new: gateOf(" + g + ", " + what + ")", x.gateOf(g, what), want[what]);
            }
        }
    }

    private static void restAtFirst(TimerGates x) {
        for (int what = 0; what < 4; what++) {
            Due.due("new: look(" + what + ")", x.look(what), 0);
        }
        for (int i = 0; i < 16; i++) {
            for (int what = 0; what < 3; what++) {
                Due.due("new: served(" + i + ", " + what + ")", x.served(i, what), -1);
            }
        }
    }

    private static void nothingHappensByItself() {
        TimerGates x = new TimerGates();
        Due.due("new: advance(100)", x.advance(100), 0);
        Due.due("new: look(0) behind 100 ticks", x.look(0), 0);
        timersAtFirst(x);
        gatesAtFirst(x);
    }

    private static void objectsAreApart() {
        TimerGates one = new TimerGates();
        TimerGates other = new TimerGates();
        String first = Due.state(other);
        one.set(0, 0, 2, false);
        one.turn(0, true);
        one.gate(0, 1, 1);
        one.advance(50);
        Due.same("calls on one object", Due.state(other), first);
        Due.same("a later new object", Due.state(new TimerGates()), first);
    }
}
