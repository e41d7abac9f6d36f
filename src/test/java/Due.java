import java.util.List;
import java.util.function.Consumer;
import java.util.function.Predicate;
import java.util.function.Supplier;
import java.util.function.ToIntFunction;

/** Compares answers with the ones that are due, and ends a test with exit code 1 if one was wrong. */
final class Due {
    static final int[] WILD = {Integer.MIN_VALUE, Integer.MIN_VALUE + 1, -65536, -256, -2, -1,
        65537, 1 << 20, Integer.MAX_VALUE - 1, Integer.MAX_VALUE};

    private static final List<Supplier<TimerGates>> STARTS = List.of(TimerGates::new, Due::busy, Due::full);

    private static int wrong = 0;

    private Due() {
    }

    static void due(String call, long got, long want) {
        if (got != want) {
            tell(call + " answered " + got + ", due is " + want);
        }
    }

    static void due(String call, boolean got, boolean want) {
        if (got != want) {
            tell(call + " answered " + got + ", due is " + want);
        }
    }

    static void same(String call, String got, String want) {
        if (!got.equals(want)) {
            tell(call + " left\n  " + got + "\ndue is\n  " + want);
        }
    }

    static void tell(String text) {
        wrong++;
        System.out.println(text);
    }

    /** The call answers NONE and changes nothing, on a new object and on two that are in the midst of things. */
    static void none(String call, ToIntFunction<TimerGates> does) {
        for (Supplier<TimerGates> start : STARTS) {
            changesNothing(call, start, x -> due(call, does.applyAsInt(x), TimerGates.NONE));
        }
    }

    /** The call answers false and changes nothing, on a new object and on two that are in the midst of things. */
    static void refused(String call, Predicate<TimerGates> does) {
        for (Supplier<TimerGates> start : STARTS) {
            changesNothing(call, start, x -> due(call, does.test(x), false));
        }
    }

    /** Behind the call all can be read as without it, and goes on as without it. */
    static void changesNothing(String call, Supplier<TimerGates> start, Consumer<TimerGates> does) {
        TimerGates x = start.get();
        TimerGates without = start.get();
        does.accept(x);
        same(call, state(x), state(without));
        due(call + ", then advance(40)", x.advance(40), without.advance(40));
        same(call + ", then advance(40)", state(x), state(without));
    }

    /** All that can be read of an object, as one text, by 152 of its 512 calls. */
    static String state(TimerGates x) {
        StringBuilder s = new StringBuilder();
        for (int t = 0; t < 8; t++) {
            s.append(" T").append(t);
            for (int what = 0; what < 9; what++) {
                s.append(' ').append(x.timer(t, what));
            }
        }
        for (int g = 0; g < 4; g++) {
            s.append(" G").append(g);
            for (int what = 0; what < 7; what++) {
                s.append(' ').append(x.gateOf(g, what));
            }
        }
        s.append(" L");
        for (int what = 0; what < 4; what++) {
            s.append(' ').append(x.look(what));
        }
        s.append(" S");
        for (int i = 0; i < 16; i++) {
            s.append(' ').append(x.served(i, 0)).append('/').append(x.served(i, 1)).append('/').append(x.served(i, 2));
        }
        return s.toString();
    }

    /** In the midst of things: some timers run, bits are up, one gate waits, fewer than 16 bits were served. */
    static TimerGates busy() {
        TimerGates x = new TimerGates();
        x.set(0, 0, 3, false);
        x.set(1, 1, 2, false);
        x.set(2, 0, 4, true);
        x.set(7, 0, 5, false);
        x.turn(0, true);
        x.turn(1, true);
        x.turn(2, true);
        x.turn(7, true);
        x.gate(0, 3, 2);
        x.gate(3, 128, 7);
        x.advance(22);
        return x;
    }

    /** Full: every timer runs, bits are up, every gate waits, more than 16 bits were served. */
    static TimerGates full() {
        TimerGates x = new TimerGates();
        for (int t = 0; t < 8; t++) {
            x.set(t, t % 2, 2 + t / 2, false);
            x.turn(t, true);
        }
        for (int g = 0; g < 4; g++) {
            x.gate(g, 255, 2 + g);
        }
        x.advance(98);
        return x;
    }

    /** A new object in which these bits have come up in the first tick, by timers that are ONCE. */
    static TimerGates withStatus(int bits) {
        TimerGates x = new TimerGates();
        raise(x, bits);
        return x;
    }

    /** One tick, in which these bits come up, by timers that are ONCE. */
    static void raise(TimerGates x, int bits) {
        for (int t = 0; t < 8; t++) {
            if ((bits >> t & 1) == 1) {
                x.set(t, 0, 1, true);
                x.turn(t, true);
            }
        }
        x.advance(1);
    }

    static void finish(String name) {
        System.out.println(name + ": " + (wrong == 0 ? "all answers are as due" : wrong + " answers are not as due"));
        if (wrong != 0) {
            System.exit(1);
        }
    }
}
