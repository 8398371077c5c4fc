import java.io.IOException;
import java.lang.reflect.Constructor;
import java.lang.reflect.Field;
import java.lang.reflect.Method;
import java.lang.reflect.Modifier;
import java.nio.file.Files;
import java.nio.file.Path;
import java.util.ArrayList;
import java.util.Arrays;
import java.util.List;
import java.util.Set;
import java.util.TreeSet;
import java.util.regex.Matcher;
import java.util.regex.Pattern;

/** The face of the document, and the rules of LANGUAGE.md that a machine can look at. */
public final class FormTest {
    private static final Path SOURCE = Path.of("src/main/java/ConkerBouts.java"), DOC = Path.of("../shared/DOC.md");
    private static final String[] FORBIDDEN = {
        "\\bthrow\\b", "\\btry\\b", "\\bcatch\\b", "\\bsynchronized\\b", "\\bassert\\b", "\\bimport\\b", "\\bpackage\\b", "->", "::",
        "\\bSystem\\.(?!arraycopy\\b)", "Exact\\b", "\\bstatic\\s*\\{", "\\bObject\\b", "\\bThread\\b", "\\bvar\\b",
    };
    private static int wrong = 0;

    private static void check(String what, boolean good) {
        if (good) return;
        wrong++;
        System.out.println(what);
    }

    private static boolean isHidden(int modifiers) {
        return Modifier.isPrivate(modifiers);
    }

    /** "public int yard(int t)" as "int yard(int)". */
    private static Set<String> faceOfDocument() throws IOException {
        Set<String> face = new TreeSet<>();
        Matcher m = Pattern.compile("    public (int|long) (\\w+)\\(([^)]*)\\);").matcher(Files.readString(DOC));
        while (m.find()) face.add(m.group(1) + " " + m.group(2) + "(" + m.group(3).replaceAll(" \\w+(, |$)", ",").replaceAll(",$", "") + ")");
        return face;
    }

    private static Set<String> faceOfClass() {
        Set<String> face = new TreeSet<>();
        for (Method m : ConkerBouts.class.getDeclaredMethods()) {
            if (isHidden(m.getModifiers())) continue;
            check(m + " is not public, or static", Modifier.isPublic(m.getModifiers()) && !Modifier.isStatic(m.getModifiers()));
            List<String> types = new ArrayList<>();
            for (Class<?> type : m.getParameterTypes()) types.add(type.getName());
            face.add(m.getReturnType().getName() + " " + m.getName() + "(" + String.join(",", types) + ")");
        }
        return face;
    }

    private static void checkFace() throws IOException {
        Set<String> due = faceOfDocument(), got = faceOfClass();
        check("the document's face has " + due.size() + " methods, not 38", due.size() == 38);
        check("methods are " + got + ", due are " + due, got.equals(due));
        check("the class is not public and final", (ConkerBouts.class.getModifiers() & 17) == 17);
        Constructor<?>[] made = ConkerBouts.class.getDeclaredConstructors();
        boolean one = made.length == 1 && made[0].getParameterCount() == 0 && Modifier.isPublic(made[0].getModifiers());
        check("there is not just the public constructor", one);
        Set<String> constants = new TreeSet<>();
        for (Field f : ConkerBouts.class.getDeclaredFields()) if (!isHidden(f.getModifiers())) constants.add(f.getName());
        check("constants are " + constants, constants.equals(Set.of("NONE", "BAD", "NO", "FULL")));
    }

    private static void checkClassesInside() {
        Class<?>[] inside = ConkerBouts.class.getDeclaredClasses();
        check("more than twelve classes", inside.length < 12);
        Set<String> open = new TreeSet<>();
        for (Method m : ConkerBouts.class.getDeclaredMethods()) if (!isHidden(m.getModifiers())) open.add(m.getName());
        List<Class<?>> all = new ArrayList<>(Arrays.asList(inside));
        all.add(ConkerBouts.class);
        for (Class<?> c : all) {
            if (c != ConkerBouts.class) check(c + " is not static", Modifier.isStatic(c.getModifiers()));
            int fields = 0;
            for (Field f : c.getDeclaredFields()) {
                boolean fixed = Modifier.isStatic(f.getModifiers());
                check(f + " is static and not final", !fixed || Modifier.isFinal(f.getModifiers()));
                if (!fixed) fields++;
            }
            check(c + " has " + fields + " fields", fields <= 20);
            for (Method m : c.getDeclaredMethods()) {
                check(m + " has too many parameters", m.getParameterCount() <= 7);
                boolean ofFace = c == ConkerBouts.class && !isHidden(m.getModifiers());
                check(m + " bears a name of the face", ofFace || !open.contains(m.getName()));
            }
        }
    }

    private static void checkSource() throws IOException {
        String source = Files.readString(SOURCE);
        String bare = source.replaceAll("(?s)/\\*.*?\\*/", "").replaceAll("//[^\n]*", "").replaceAll("\"[^\"\n]*\"", "\"\"");
        for (String word : FORBIDDEN) check("the source has " + word, !Pattern.compile(word).matcher(bare).find());
        check("the source has a sign beyond 127", source.chars().allMatch(c -> c == '\n' || c >= 32 && c < 127));
        String[] lines = source.split("\n");
        int start = -1;
        for (int n = 0; n < lines.length; n++) {
            if (lines[n].matches("( {4}| {8})\\S[^;=]*\\) \\{")) start = n;
            if (start < 0 || !lines[n].matches("( {4}| {8})\\}")) continue;
            check("the method at line " + (start + 1) + " has " + (n - start + 1) + " lines", n - start < 60);
            start = -1;
        }
    }

    public static void main(String[] args) throws IOException {
        checkFace();
        checkClassesInside();
        checkSource();
        System.out.println(wrong == 0 ? "the form is as told" : wrong + " faults of form");
        if (wrong != 0) System.exit(1);
    }
}
