import java.io.IOException;
import java.lang.reflect.Field;
import java.lang.reflect.Method;
import java.lang.reflect.Modifier;
import java.nio.file.Files;
import java.nio.file.Path;
import java.util.HashSet;
import java.util.List;
import java.util.Set;
import java.util.regex.Matcher;
import java.util.regex.Pattern;

/** Those rules of LANGUAGE.md that can be read off the class without running it. */
public final class LanguageTest {
    private static final Path SOURCE = Path.of("src/main/java/TimerGates.java");

    public static void main(String[] args) throws IOException {
        String code = withoutComments(Files.readString(SOURCE));
        noForbiddenWords(code);
        namesOfPublicMethodsAreFree();
        membersInsideArePrivate();
        fewParameters();
        Due.finish("LanguageTest");
    }

    private static String withoutComments(String text) {
        return text.replaceAll("(?s)/\\*.*?\\*/", " ").replaceAll("//[^\n]*", " ");
    }

    /** Rules 2, 4, 6 and 13: no word that they rule out, and none of the library, of which the class needs nothing. */
    private static void noForbiddenWords(String code) {
        List<String> forbidden = List.of("\\bthrows?\\b", "\\btry\\b", "\\bcatch\\b", "\\bfinally\\b",
            "\\bsynchronized\\b", "\\bassert\\b", "\\bimport\\b", "\\bpackage\\b", "->", "::", "@",
            "\\bObject\\b", "\\bSystem\\b", "\\bMath\\b", "\\bjava\\s*\\.", "\\bstatic\\s*\\{");
        for (String word : forbidden) {
            Matcher m = Pattern.compile(word).matcher(code);
            Due.due("the class has " + word, m.find(), false);
        }
    }

    /** Rule 1: "No private method bears the name of a public one", in the classes inside either. */
    private static void namesOfPublicMethodsAreFree() {
        Set<String> names = new HashSet<>();
        for (Method m : TimerGates.class.getDeclaredMethods()) {
            if (Modifier.isPublic(m.getModifiers())) {
                names.add(m.getName());
            }
        }
        Due.due("public methods", names.size(), 10);
        for (Class<?> c : classes()) {
            for (Method m : c.getDeclaredMethods()) {
                boolean taken = Modifier.isPrivate(m.getModifiers()) && names.contains(m.getName());
                Due.due("private " + m + " bears the name of a public one", taken, false);
            }
        }
    }

    private static void membersInsideArePrivate() {
        for (Class<?> inside : TimerGates.class.getDeclaredClasses()) {
            for (Field f : inside.getDeclaredFields()) {
                Due.due(f + " is private", Modifier.isPrivate(f.getModifiers()), true);
            }
            for (Method m : inside.getDeclaredMethods()) {
                Due.due(m + " is private", Modifier.isPrivate(m.getModifiers()), true);
            }
        }
    }

    /** Rule 11. */
    private static void fewParameters() {
        for (Class<?> c : classes()) {
            for (Method m : c.getDeclaredMethods()) {
                Due.due(m + " has at most seven parameters", m.getParameterCount() <= 7, true);
            }
        }
    }

    private static Set<Class<?>> classes() {
        Set<Class<?>> all = new HashSet<>(Set.of(TimerGates.class.getDeclaredClasses()));
        all.add(TimerGates.class);
        return all;
    }
}
