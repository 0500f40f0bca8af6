import java.lang.reflect.Constructor;
import java.lang.reflect.Field;
import java.lang.reflect.Method;
import java.lang.reflect.Modifier;
import java.nio.file.Files;
import java.nio.file.Path;
import java.util.ArrayList;
import java.util.List;
import java.util.TreeSet;
import java.util.regex.Pattern;

/** The public face, and those rules of LANGUAGE.md that the text of the program shows. */
public final class FaceTest {
    private static final Check check = new Check();

    private static final String I = "IndexOutOfBoundsException";
    private static final String A = "IllegalArgumentException";
    private static final String S = "IllegalStateException";

    private static final String[] FACE = {
        "int paper 4 " + I + " " + A,
        "int buy 2 " + I + " " + A,
        "int buyAll 0",
        "int ofPaper 2 " + I + " " + A,
        "int job 5 " + I + " " + A + " " + S,
        "int ofJob 2 " + I + " " + A,
        "int expected 3 " + I + " " + A,
        "int order 2 " + I + " " + S,
        "int again 1 " + I + " " + S,
        "int invoice 1 " + I + " " + S,
        "int towers 2 " + I + " " + A,
        "int ofPress 2 " + I + " " + A,
        "int queue 2 " + I,
        "int sort 1 " + I,
        "int slip 3 " + I + " " + A + " " + S,
        "int terms 2 " + A,
        "int many 1 " + A,
        "double meanInvoice 0",
        "int bestPress 1 " + I,
        "int quoteBehind 4 " + I + " " + A + " " + S,
        "int profit 1 " + I,
        "long digest 0",
    };

    private static final String[] NOT_IN_THE_LANGUAGE = {
        "^import", "^package", "\\bcatch\\b", "\\bfinally\\b", "\\bassert\\b", "\\bsynchronized\\b", "->", "::",
        "static \\{", "\\bMath\\.\\w*Exact\\b", "\\bNullPointerException\\b", "\\bArrayIndexOutOfBoundsException\\b",
        "\\bString\\.", "\\bSystem\\.(?!arraycopy)", "\\bprotected\\b", "\\bthrows Exception\\b", "[^\\x00-\\x7f]",
    };

    public static void main(String[] args) throws Exception {
        faceIsTheDocuments();
        nothingElseIsOpen();
        textKeepsToTheLanguage();
        check.end();
    }

    private static void faceIsTheDocuments() {
        Class<?> c = PrintLedger.class;
        int open = Modifier.PUBLIC | Modifier.FINAL;
        check.due("public final", open, c::getModifiers);
        Constructor<?>[] made = c.getDeclaredConstructors();
        check.due("constructors", 1, () -> made.length);
        check.due("public PrintLedger()", Modifier.PUBLIC, () -> made[0].getParameterCount() + made[0].getModifiers());
        TreeSet<String> found = new TreeSet<>();
        for (Method m : c.getDeclaredMethods()) {
            if (Modifier.isPublic(m.getModifiers())) {
                found.add(describe(m));
            }
        }
        TreeSet<String> due = new TreeSet<>(List.of(FACE));
        if (!found.equals(due)) {
            check.report("the face is " + found + ", due is " + due);
        }
    }

    private static String describe(Method m) {
        StringBuilder text = new StringBuilder();
        text.append(m.getReturnType().getName()).append(' ').append(m.getName());
        text.append(' ').append(m.getParameterCount());
        for (Class<?> thrown : m.getExceptionTypes()) {
            text.append(' ').append(thrown.getSimpleName());
        }
        return text.toString();
    }

    private static void nothingElseIsOpen() {
        TreeSet<String> names = new TreeSet<>();
        for (Method m : PrintLedger.class.getDeclaredMethods()) {
            if (Modifier.isPublic(m.getModifiers())) {
                names.add(m.getName());
            }
        }
        for (Method m : PrintLedger.class.getDeclaredMethods()) {
            int is = m.getModifiers();
            if (!Modifier.isPublic(is) && !m.isSynthetic() && !Modifier.isPrivate(is)) {
                check.report(m + " is neither public nor private");
            }
            if (Modifier.isPrivate(is) && names.contains(m.getName())) {
                check.report(m + " bears the name of a public one");
            }
        }
        for (Field f : PrintLedger.class.getDeclaredFields()) {
            if (!Modifier.isPrivate(f.getModifiers())) {
                check.report(f + " is not private");
            }
        }
        List<Class<?>> all = new ArrayList<>(List.of(PrintLedger.class.getDeclaredClasses()));
        all.add(PrintLedger.class);
        check.due("some twelve classes", 1, () -> all.size() <= 12 ? 1 : 0);
        for (Class<?> c : all) {
            heldWithin(c);
        }
    }

    private static void heldWithin(Class<?> c) {
        int kept = 0;
        for (Field f : c.getDeclaredFields()) {
            if (!Modifier.isStatic(f.getModifiers())) {
                kept++;
            } else if (!Modifier.isFinal(f.getModifiers())) {
                check.report(f + " is static and not final");
            }
        }
        if (kept > 20) {
            check.report(c + " has " + kept + " fields");
        }
        for (Method m : c.getDeclaredMethods()) {
            if (m.getParameterCount() > 7) {
                check.report(m + " has too many parameters");
            }
        }
        if (c != PrintLedger.class && !Modifier.isStatic(c.getModifiers())) {
            check.report(c + " is not static");
        }
    }

    private static void textKeepsToTheLanguage() throws Exception {
        List<String> lines = Files.readAllLines(Path.of("src/main/java/PrintLedger.java"));
        for (int k = 0; k < lines.size(); k++) {
            for (String no : NOT_IN_THE_LANGUAGE) {
                if (Pattern.compile(no).matcher(lines.get(k)).find()) {
                    check.report("line " + (k + 1) + " has " + no + ": " + lines.get(k));
                }
            }
        }
    }
}
