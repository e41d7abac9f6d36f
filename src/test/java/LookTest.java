/** Promise 10: look. */
public final class LookTest {
    public static void main(String[] args) {
        ordinary();
        ticksToTheNextEnd();
        onlyThoseThatRunByTicks();
        noneRuns();
        endsInThatVeryTick();
        leastAndMost();
        everyStatus();
        whatsAre0To3();
        Due.finish("LookTest");
    }

    private static void ordinary() {
        TimerGates x = new TimerGates();
        x.set(1, 0, 2, false);
        x.set(6, 0, 3, true);
        x.turn(1, true);
        x.turn(6, true);
        x.advance(3);
        Due.due("status", x.look(0), 66);
        Due.due("now", x.look(1), 3);
        Due.due("served in all", x.look(2), 0);
        x.gate(0, 2, 1);
        x.gate(3, 64, 1);
        x.advance(3);
        Due.due("status later", x.look(0), 2);
        Due.due("now later", x.look(1), 6);
        Due.due("served in all later", x.look(2), 2);
        x.next(5);
        Due.due("now by next", x.look(1), 7);
        Due.due("served in all by next", x.look(2), 3);
    }

    private static void ticksToTheNextEnd() {
        TimerGates x = new TimerGates();
        x.set(2, 0, 7, false);
        x.set(5, 0, 5, true);
        x.turn(2, true);
        x.turn(5, true);
        int[] want = {5, 4, 3, 2, 1, 2, 1, 7, 6};
        for (int i = 0; i < want.length; i++) {
            Due.due("look(3) at " + i, x.look(3), want[i]);
            x.advance(1);
        }
        x.turn(2, false);
        Due.due("none runs", x.look(3), 0);
        x.set(0, 0, 65535, false);
        x.turn(0, true);
        Due.due("the longest", x.look(3), 65535);
        x.turn(7, true);
        Due.due("the shortest", x.look(3), 1);
    }

    private static void onlyThoseThatRunByTicks() {
        TimerGates x = new TimerGates();
        x.set(1, 1, 2, false);
        x.turn(1, true);
        Due.due("one that counts ends", x.look(3), 0);
        x.set(0, 0, 9, false);
        Due.due("one that does not run", x.look(3), 0);
        x.turn(0, true);
        Due.due("one that runs by ticks", x.look(3), 9);
    }

    /** "(0: none RUNS)": a new object, one whose only one is turned off, set anew, or has ENDED and was ONCE. */
    private static void noneRuns() {
        TimerGates x = new TimerGates();
        Due.due("at first", x.look(3), 0);
        for (int t = 0; t < 8; t++) {
            x.turn(t, true);
            Due.due(t + " runs", x.look(3), 1);
            x.turn(t, false);
            Due.due(t + " is turned off", x.look(3), 0);
            x.turn(t, true);
            x.set(t, 0, 3, true);
            Due.due(t + " is set anew", x.look(3), 0);
            x.turn(t, true);
            x.advance(2);
            Due.due(t + " runs up to its end", x.look(3), 1);
            x.advance(1);
            Due.due(t + " was once", x.look(3), 0);
        }
    }

    /** "TICKS up to the next one in which ..": in none before, and in that one. */
    private static void endsInThatVeryTick() {
        for (int a = 1; a <= 6; a++) {
            for (int b = 1; b <= 6; b++) {
                TimerGates x = new TimerGates();
                x.set(2, 0, a, false);
                x.set(6, 0, b, false);
                x.turn(2, true);
                x.turn(6, true);
                for (int i = 0; i < 8; i++) {
                    int ticks = x.look(3);
                    int before = x.timer(2, 5) + x.timer(6, 5);
                    x.advance(ticks - 1);
                    Due.due("no end before, " + a + " and " + b, x.timer(2, 5) + x.timer(6, 5), before);
                    x.advance(1);
                    Due.due("an end then, " + a + " and " + b, x.timer(2, 5) + x.timer(6, 5) > before, true);
                }
            }
        }
    }

    /** 65535 is the most that it can be, 1 the least where one runs. */
    private static void leastAndMost() {
        TimerGates x = new TimerGates();
        x.set(7, 0, 65535, false);
        x.turn(7, true);
        Due.due("most", x.look(3), 65535);
        x.advance(1);
        Due.due("one less", x.look(3), 65534);
        x.set(0, 0, 65535, false);
        x.turn(0, true);
        Due.due("the lesser of two", x.look(3), 65534);
        x.advance(20000);
        x.advance(20000);
        x.advance(20000);
        x.advance(5533);
        Due.due("least", x.look(3), 1);
        x.advance(1);
        Due.due("least again, of the other", x.look(3), 1);
        x.advance(1);
        Due.due("most but one", x.look(3), 65534);
    }

    /** STATUS from 0 to 255. */
    private static void everyStatus() {
        for (int status = 0; status <= 255; status++) {
            Due.due("status", Due.withStatus(status).look(0), status);
        }
    }

    /** "NONE for another what": what is 0 .. 3. */
    private static void whatsAre0To3() {
        TimerGates x = Due.full();
        for (int what = 0; what < 4; what++) {
            Due.due("look(" + what + ") is there", x.look(what) > 0, true);
        }
        int[] noWhat = {-4, -1, 4, 5, 7, 8, 255};
        for (int what : noWhat) {
            Due.none("look(" + what + ")", y -> y.look(what));
        }
        for (int w : Due.WILD) {
            Due.none("look(" + w + ")", y -> y.look(w));
        }
    }
}
