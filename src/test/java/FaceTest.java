import java.lang.reflect.Constructor;
import java.lang.reflect.Field;
import java.lang.reflect.Method;
import java.lang.reflect.Modifier;
import java.util.Set;
import java.util.TreeSet;

/** The public face of the document, and no other visible member (LANGUAGE.md, rule 1). */
public final class FaceTest {
    private static final Set<String> FACE = Set.of(
        "public static final int NONE",
        "public TimerGates()",
        "public boolean set(int,int,int,boolean)",
        "public boolean turn(int,boolean)",
        "public boolean gate(int,int,int)",
        "public int clear(int)",
        "public int advance(int)",
        "public int next(int)",
        "public int timer(int,int)",
        "public int gateOf(int,int)",
        "public int look(int)",
        "public int served(int,int)");

    public static void main(String[] args) {
        Class<?> c = TimerGates.class;
        Set<String> seen = new TreeSet<>();
        for (Field f : c.getDeclaredFields()) {
            if (isSeen(f.getModifiers())) {
                seen.add(f.toString().replace("TimerGates.", ""));
            }
        }
        for (Constructor<?> k : c.getDeclaredConstructors()) {
            seen.add(k.toString());
        }
        for (Method m : c.getDeclaredMethods()) {
            if (isSeen(m.getModifiers())) {
                seen.add(m.toString().replace("TimerGates.", ""));
            }
        }
        Due.same("the face", seen.toString(), new TreeSet<>(FACE).toString());
        Due.due("public and final", c.getModifiers(), Modifier.PUBLIC | Modifier.FINAL);
        noStaticState(c);
        Due.finish("FaceTest");
    }

    private static boolean isSeen(int modifiers) {
        return !Modifier.isPrivate(modifiers);
    }

    private static void noStaticState(Class<?> c) {
        for (Field f : c.getDeclaredFields()) {
            int m = f.getModifiers();
            Due.due(f.getName() + " is final if static", !Modifier.isStatic(m) || Modifier.isFinal(m), true);
        }
        for (Class<?> inside : c.getDeclaredClasses()) {
            Due.due(inside.getName() + " is static", Modifier.isStatic(inside.getModifiers()), true);
            noStaticState(inside);
        }
    }
}
