/** Compares answers with the ones that are due, and ends a test with exit code 1 if one was wrong. */
final class Due {
    static final int[] WILD = {Integer.MIN_VALUE, Integer.MIN_VALUE + 1, -65536, -256, -2, -1,
        65537, 1 << 20, Integer.MAX_VALUE - 1, Integer.MAX_VALUE};

    private static int wrong = 0;

    private Due() {
    }

    static void due(String call, long got, long want) {
        if (got != want) {
            tell(call + " answered " + got + ", due is " + want);
        }
    }

    static void due(String call, boolean got, boolean want) {
        if (got != want) {
            tell(call + " answered " + got + ", due is " + want);
        }
    }

    static void same(String call, String got, String want) {
        if (!got.equals(want)) {
            tell(call + " left\n  " + got + "\ndue is\n  " + want);
        }
    }

    static void tell(String text) {
        wrong++;
        System.out.println(text);
    }

    /** All that can be read of an object, as one text: a wrong call must leave it as it was. */
    static String state(TimerGates x) {
        StringBuilder s = new StringBuilder();
        for (int t = 0; t < 8; t++) {
            s.append(" T").append(t);
            for (int what = 0; what < 9; what++) {
                s.append(' ').append(x.timer(t, what));
            }
        }
        for (int g = 0; g < 4; g++) {
            s.append(" G").append(g);
            for (int what = 0; what < 7; what++) {
                s.append(' ').append(x.gateOf(g, what));
            }
        }
        s.append(" L");
        for (int what = 0; what < 4; what++) {
            s.append(' ').append(x.look(what));
        }
        s.append(" S");
        for (int i = 0; i < 16; i++) {
            s.append(' ').append(x.served(i, 0)).append('/').append(x.served(i, 1)).append('/').append(x.served(i, 2));
        }
        return s.toString();
    }

    /** An object in the midst of things: timers run, bits are up, one gate waits, some bits were served. */
    static TimerGates busy() {
        TimerGates x = new TimerGates();
        x.set(0, 0, 3, false);
        x.set(1, 1, 2, false);
        x.set(2, 0, 4, true);
        x.set(7, 0, 5, false);
        x.turn(0, true);
        x.turn(1, true);
        x.turn(2, true);
        x.turn(7, true);
        x.gate(0, 3, 2);
        x.gate(3, 128, 7);
        x.advance(22);
        return x;
    }

    static void finish(String name) {
        System.out.println(name + ": " + (wrong == 0 ? "all answers are as due" : wrong + " answers are not as due"));
        if (wrong != 0) {
            System.exit(1);
        }
    }
}
