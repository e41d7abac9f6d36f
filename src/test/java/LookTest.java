/** Promise 10: look. */
public final class LookTest {
    public static void main(String[] args) {
        ordinary();
        ticksToTheNextEnd();
        onlyThoseThatRunByTicks();
        wrongInputs();
        Due.finish("LookTest");
    }

    private static void ordinary() {
        TimerGates x = new TimerGates();
        x.set(1, 0, 2, false);
        x.set(6, 0, 3, true);
        x.turn(1, true);
        x.turn(6, true);
        x.advance(3);
        Due.due("status", x.look(0), 66);
        Due.due("now", x.look(1), 3);
        Due.due("served in all", x.look(2), 0);
        x.gate(0, 2, 1);
        x.gate(3, 64, 1);
        x.advance(3);
        Due.due("status later", x.look(0), 2);
        Due.due("now later", x.look(1), 6);
        Due.due("served in all later", x.look(2), 2);
        x.next(5);
        Due.due("now by next", x.look(1), 7);
        Due.due("served in all by next", x.look(2), 3);
    }

    private static void ticksToTheNextEnd() {
        TimerGates x = new TimerGates();
        x.set(2, 0, 7, false);
        x.set(5, 0, 5, true);
        x.turn(2, true);
        x.turn(5, true);
        int[] want = {5, 4, 3, 2, 1, 2, 1, 7, 6};
        for (int i = 0; i < want.length; i++) {
            Due.due("look(3) at " + i, x.look(3), want[i]);
            x.advance(1);
        }
        x.turn(2, false);
        Due.due("none runs", x.look(3), 0);
        x.set(0, 0, 65535, false);
        x.turn(0, true);
        Due.due("the longest", x.look(3), 65535);
        x.turn(7, true);
        Due.due("the shortest", x.look(3), 1);
    }

    private static void onlyThoseThatRunByTicks() {
        TimerGates x = new TimerGates();
        x.set(1, 1, 2, false);
        x.turn(1, true);
        Due.due("one that counts ends", x.look(3), 0);
        x.set(0, 0, 9, false);
        Due.due("one that does not run", x.look(3), 0);
        x.turn(0, true);
        Due.due("one that runs by ticks", x.look(3), 9);
    }

    private static void wrongInputs() {
        TimerGates x = Due.busy();
        String before = Due.state(x);
        Due.due("look(-1)", x.look(-1), -1);
        Due.due("look(4)", x.look(4), -1);
        for (int w : Due.WILD) {
            Due.due("look(" + w + ")", x.look(w), -1);
        }
        Due.same("looks", Due.state(x), before);
    }
}
