/** Promise 11: served. */
public final class ServedTest {
    public static void main(String[] args) {
        oneByOne();
        orderWithinATick();
        wrongInputs();
        Due.finish("ServedTest");
    }

    /** Bit k mod 8 is the k-th one served, by gate k mod 4, in tick k * 3 + 3. */
    private static void oneByOne() {
        TimerGates x = new TimerGates();
        for (int k = 0; k < 40; k++) {
            x.set(k % 8, 0, 1, true);
            x.turn(k % 8, true);
            x.gate(k % 4, 1 << k % 8, 2);
            x.advance(3);
            for (int i = 0; i < 18; i++) {
                boolean there = i <= k && i < 16;
                Due.due("bit " + i + " of " + k, x.served(i, 0), there ? (k - i) % 8 : -1);
                Due.due("gate " + i + " of " + k, x.served(i, 1), there ? (k - i) % 4 : -1);
                Due.due("now " + i + " of " + k, x.served(i, 2), there ? (k - i) * 3 + 3 : -1);
            }
        }
        Due.due("served in all", x.look(2), 40);
    }

    private static void orderWithinATick() {
        TimerGates x = new TimerGates();
        for (int t = 0; t < 8; t++) {
            x.set(t, 0, 1, true);
            x.turn(t, true);
        }
        x.gate(0, 128, 1);
        x.gate(1, 1, 1);
        x.gate(2, 64, 1);
        x.gate(3, 2, 1);
        x.advance(2);
        int[] bits = {1, 6, 0, 7};
        for (int i = 0; i < 4; i++) {
            Due.due("bit " + i, x.served(i, 0), bits[i]);
            Due.due("gate " + i, x.served(i, 1), 3 - i);
            Due.due("now " + i, x.served(i, 2), 2);
        }
        Due.due("no fifth", x.served(4, 0), -1);
    }

    private static void wrongInputs() {
        TimerGates x = Due.busy();
        x.advance(500);
        String before = Due.state(x);
        Due.due("served in all is over 16", x.look(2) > 16, true);
        int[] none = {-1, 16, 17, 32};
        for (int i : none) {
            for (int what = 0; what < 3; what++) {
                Due.due("served(" + i + ", " + what + ")", x.served(i, what), -1);
            }
        }
        for (int i = 0; i < 16; i++) {
            Due.due("served(" + i + ", -1)", x.served(i, -1), -1);
            Due.due("served(" + i + ", 3)", x.served(i, 3), -1);
        }
        for (int w : Due.WILD) {
            Due.due("served(" + w + ", 0)", x.served(w, 0), -1);
            Due.due("served(0, " + w + ")", x.served(0, w), -1);
            Due.due("served(" + w + ", " + w + ")", x.served(w, w), -1);
        }
        Due.same("reads of served", Due.state(x), before);
    }
}
