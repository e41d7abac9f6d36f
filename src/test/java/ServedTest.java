/** Promise 11: served. */
public final class ServedTest {
    public static void main(String[] args) {
        noneServedYet();
        asManyAsWereServed();
        anIdleGateIsNoRow();
        orderWithinATick();
        rowsAre0To15();
        whatsAre0To2();
        Due.finish("ServedTest");
    }

    /** The k-th service, from 0 on, is that of bit k mod 8 by gate k mod 4 in tick 3 k + 3. */
    private static TimerGates afterServices(int services) {
        TimerGates x = new TimerGates();
        for (int k = 0; k < services; k++) {
            x.set(k % 8, 0, 1, true);
            x.turn(k % 8, true);
            x.gate(k % 4, 1 << k % 8, 2);
            x.advance(3);
        }
        return x;
    }

    private static void rowDue(TimerGates x, int services, int i) {
        boolean there = i >= 0 && i < services && i < 16;
        int k = services - 1 - i;
        String of = " of " + services;
        Due.due("served(" + i + ", 0)" + of, x.served(i, 0), there ? k % 8 : -1);
        Due.due("served(" + i + ", 1)" + of, x.served(i, 1), there ? k % 4 : -1);
        Due.due("served(" + i + ", 2)" + of, x.served(i, 2), there ? k * 3 + 3 : -1);
    }

    /** "NONE if there is none such": none at all on a new object, nor when ENDS were not SERVED. */
    private static void noneServedYet() {
        for (int i = -1; i <= 16; i++) {
            rowDue(new TimerGates(), 0, i);
            rowDue(Due.withStatus(255), 0, i);
        }
    }

    /** "the i-th latest (0: the latest, up to 15)": with fewer than 16, with 16, with more, and over and over. */
    private static void asManyAsWereServed() {
        for (int services = 0; services <= 68; services++) {
            TimerGates x = afterServices(services);
            for (int i = -1; i <= 18; i++) {
                rowDue(x, services, i);
            }
            Due.due("served in all", x.look(2), services);
        }
    }

    private static void anIdleGateIsNoRow() {
        TimerGates x = afterServices(5);
        x.gate(3, 1, 1);
        Due.raise(x, 1);
        x.clear(1);
        x.advance(1);
        Due.due("idle", x.gateOf(3, 5), 1);
        rowDue(x, 5, 0);
        rowDue(x, 5, 4);
        rowDue(x, 5, 5);
    }

    private static void orderWithinATick() {
        TimerGates x = new TimerGates();
        x.gate(0, 128, 1);
        x.gate(1, 1, 1);
        x.gate(2, 64, 1);
        x.gate(3, 2, 1);
        Due.raise(x, 255);
        x.advance(1);
        int[] bits = {1, 6, 0, 7};
        for (int i = 0; i < 4; i++) {
            Due.due("bit " + i, x.served(i, 0), bits[i]);
            Due.due("gate " + i, x.served(i, 1), 3 - i);
            Due.due("now " + i, x.served(i, 2), 2);
        }
        Due.due("no fifth", x.served(4, 0), -1);
    }

    /** "up to 15": no other i, however many were SERVED. */
    private static void rowsAre0To15() {
        int[] noRow = {-16, -1, 16, 17, 31, 32, 48, 255};
        for (int i : noRow) {
            for (int what = 0; what < 3; what++) {
                int read = what;
                Due.none("served(" + i + ", " + what + ")", x -> x.served(i, read));
            }
        }
        for (int w : Due.WILD) {
            Due.none("served(" + w + ", 0)", x -> x.served(w, 0));
            Due.none("served(" + w + ", " + w + ")", x -> x.served(w, w));
        }
    }

    /** "or no such what": what is 0 .. 2. */
    private static void whatsAre0To2() {
        int[] noWhat = {-3, -1, 3, 4, 16, 255};
        for (int i = 0; i < 16; i++) {
            int row = i;
            for (int what : noWhat) {
                Due.none("served(" + i + ", " + what + ")", x -> x.served(row, what));
            }
        }
        for (int w : Due.WILD) {
            Due.none("served(0, " + w + ")", x -> x.served(0, w));
            Due.none("served(15, " + w + ")", x -> x.served(15, w));
        }
    }
}
