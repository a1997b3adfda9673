import java.io.IOException;
import java.lang.reflect.Constructor;
import java.lang.reflect.Field;
import java.lang.reflect.Method;
import java.lang.reflect.Modifier;
import java.nio.file.Files;
import java.nio.file.Path;
import java.util.Arrays;
import java.util.Set;
import java.util.TreeSet;
import java.util.regex.Matcher;
import java.util.regex.Pattern;

/** The public face of the document, and those rules of LANGUAGE.md that can be seen from outside. */
public final class FaceTest {
    private static final String[] FACE = {
        "int clock(int)", "boolean hours(int, int)", "boolean prices(int, int, int, int, int)",
        "int shelf(int, int, boolean, int)", "int put(int, int, boolean, boolean, int, int)", "int fee(int)",
        "int give(int)", "int claim()", "int mark(int, int, int)", "int means(int)", "int ask(int)",
        "int settle(int)", "int misfit()", "int tidy(int)", "int least()", "int sell(int, int)", "int pay(int)",
        "boolean tear(int)", "boolean mend(int)", "int shelfOf(int, int)", "int thing(int, int)",
        "int claimOf(int, int)", "int count(int)"};

    private static final String[] FORBIDDEN = {
        "\\bimport\\b", "\\bpackage\\b", "\\bthrow\\b", "\\bthrows\\b", "\\btry\\b", "\\bcatch\\b",
        "\\bsynchronized\\b", "\\bassert\\b", "->", "::", "\\bSystem\\.(?!arraycopy)", "Exact\\b", "\\bthis\\s*::"};

    public static void main(String[] args) throws IOException {
        theClass();
        theMethods();
        theFields();
        theClassesInside();
        theWords();
        Due.is("NONE", LuggageCounter.NONE, -1);
        Due.end();
    }

    private static void theClass() {
        int m = LuggageCounter.class.getModifiers();
        Due.is("public and final", Modifier.isPublic(m) && Modifier.isFinal(m), true);
        Constructor<?>[] made = LuggageCounter.class.getDeclaredConstructors();
        Due.is("constructors", made.length, 1);
        Due.is("public, without parameters",
                Modifier.isPublic(made[0].getModifiers()) && made[0].getParameterCount() == 0, true);
    }

    private static String told(Method m) {
        StringBuilder b = new StringBuilder(m.getReturnType().getName()).append(' ').append(m.getName()).append('(');
        Class<?>[] types = m.getParameterTypes();
        for (int i = 0; i < types.length; i++) {
            b.append(i == 0 ? "" : ", ").append(types[i].getName());
        }
        return b.append(')').toString();
    }

    private static void theMethods() {
        Set<String> due = new TreeSet<>(Arrays.asList(FACE));
        Set<String> names = new TreeSet<>();
        for (String f : FACE) {
            names.add(f.replaceAll("^\\w+ |\\(.*", ""));
        }
        for (Method m : LuggageCounter.class.getDeclaredMethods()) {
            if (Modifier.isPublic(m.getModifiers())) {
                Due.is("of the face: " + told(m), due.remove(told(m)), true);
                Due.is("not static: " + told(m), Modifier.isStatic(m.getModifiers()), false);
            } else {
                Due.is("private: " + told(m), Modifier.isPrivate(m.getModifiers()), true);
                Due.is("a name of the face: " + told(m), names.contains(m.getName()), false);
            }
            Due.is("seven parameters at most: " + told(m), m.getParameterCount() <= 7, true);
        }
        Due.is("missing " + due, due.size(), 0);
        for (Class<?> inside : LuggageCounter.class.getDeclaredClasses()) {
            for (Method m : inside.getDeclaredMethods()) {
                Due.is("a name of the face inside: " + told(m), names.contains(m.getName()), false);
            }
        }
    }

    private static void theFields() {
        for (Field f : LuggageCounter.class.getDeclaredFields()) {
            int m = f.getModifiers();
            Due.is("private, or NONE: " + f, Modifier.isPrivate(m) || f.getName().equals("NONE"), true);
            Due.is("no static that can change: " + f, Modifier.isStatic(m) && !Modifier.isFinal(m), false);
        }
    }

    private static void theClassesInside() {
        Class<?>[] inside = LuggageCounter.class.getDeclaredClasses();
        Due.is("twelve classes at most", inside.length <= 11, true);
        for (Class<?> c : inside) {
            int m = c.getModifiers();
            Due.is("static: " + c, Modifier.isStatic(m), true);
            Due.is("not seen from outside: " + c, Modifier.isPublic(m) || Modifier.isProtected(m), false);
        }
    }

    private static void theWords() throws IOException {
        String text = Files.readString(Path.of("src/main/java/LuggageCounter.java"));
        String code = text.replaceAll("(?s)/\\*.*?\\*/", "").replaceAll("//[^\n]*", "");
        for (String word : FORBIDDEN) {
            Matcher found = Pattern.compile(word).matcher(code);
            Due.is("forbidden: " + word, found.find(), false);
        }
    }
}
