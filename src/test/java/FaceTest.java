import java.io.IOException;
import java.lang.reflect.Constructor;
import java.lang.reflect.Field;
import java.lang.reflect.Method;
import java.lang.reflect.Modifier;
import java.nio.charset.StandardCharsets;
import java.nio.file.Files;
import java.nio.file.Path;
import java.util.ArrayList;
import java.util.List;
import java.util.Set;
import java.util.TreeSet;
import java.util.regex.Pattern;

/** The public face is the document's, and the class keeps to those rules of LANGUAGE.md that can be seen from here. */
public final class FaceTest {
    private static final String IOOBE = "IndexOutOfBoundsException";
    private static final String IAE = "IllegalArgumentException";
    private static final String ISE = "IllegalStateException";

    private static final String[] FACE = {
        "int addKind(int, int, int, int, int) " + IAE + " " + ISE,
        "int addHouse() " + ISE,
        "int addDough(int, int, int) " + IOOBE + " " + IAE + " " + ISE,
        "int clearDoughs()",
        "int swap(int, int) " + IOOBE + " " + IAE + " " + ISE,
        "int bring(int, int) " + IOOBE + " " + IAE + " " + ISE,
        "int stoke(int, int) " + IOOBE + " " + IAE + " " + ISE,
        "int settle()",
        "int pass(int) " + IAE + " " + ISE,
        "int kind(int, int) " + IOOBE + " " + IAE,
        "int house(int, int) " + IOOBE + " " + IAE,
        "int dough(int, int) " + IOOBE + " " + IAE,
        "int place(int, int) " + IOOBE + " " + IAE,
        "int whole(int) " + IAE,
        "int line(int) " + IAE,
        "int reason(int) " + IOOBE,
        "int loadedIn(int) " + IOOBE,
        "int neededLogs(int) " + IOOBE,
        "int heatIn(int) " + IAE,
        "int spoiledIn(int) " + IAE,
        "int owes(int) " + IOOBE,
        "int type(int) " + IAE + " " + ISE,
        "int clearCommands()",
        "int runCommands()",
        "int undo() " + ISE,
        "long digest()",
    };

    /** What the rules leave out, each as a pattern over the source without comments and texts. */
    private static final String[] BANNED = {
        "->", "::", "\\bimport\\b", "\\bpackage\\b", "\\bsynchronized\\b", "\\bassert\\b", "\\bfinally\\b",
        "\\bcatch\\b", "\\bthread\\b", "Exact\\s*\\(", "\\bString\\.format\\b", "\\+\\s*\"", "\"\\s*\\+",
        "\\bSystem\\.(?!arraycopy\\b)", "\\bObject\\b", "\\bRandom\\b", "\\bhashCode\\b", "\\bvar\\b",
    };

    private FaceTest() {
    }

    public static void main(String[] args) throws IOException {
        faceIsTheDocuments();
        membersArePrivate(BakeTurns.class);
        classesInsideAreSmall();
        String source = args.length > 0 ? args[0] : "src/main/java/BakeTurns.java";
        sourceKeepsToTheRules(Files.readString(Path.of(source), StandardCharsets.ISO_8859_1));
        Check.end();
    }

    private static void faceIsTheDocuments() {
        Set<String> due = new TreeSet<>(List.of(FACE));
        Set<String> got = new TreeSet<>();
        for (Method m : BakeTurns.class.getDeclaredMethods()) {
            if (Modifier.isPublic(m.getModifiers())) {
                Check.isTrue(m.getName() + " is static", !Modifier.isStatic(m.getModifiers()));
                got.add(told(m));
            }
        }
        Check.isTrue("the face: due is " + due + ", got " + got, due.equals(got));
        Check.isTrue("public and final", BakeTurns.class.getModifiers() == (Modifier.PUBLIC | Modifier.FINAL));
        Constructor<?>[] made = BakeTurns.class.getDeclaredConstructors();
        Check.same("one constructor", 1, made.length);
        Check.isTrue("without parameters", made[0].getParameterCount() == 0 && Modifier.isPublic(made[0].getModifiers()));
        Check.same("NONE", -1, BakeTurns.NONE);
    }

    private static String told(Method m) {
        List<String> parts = new ArrayList<>();
        for (Class<?> type : m.getParameterTypes()) {
            parts.add(type.getSimpleName());
        }
        StringBuilder s = new StringBuilder(m.getReturnType() + " " + m.getName() + "(" + String.join(", ", parts) + ")");
        for (Class<?> type : m.getExceptionTypes()) {
            s.append(' ').append(type.getSimpleName());
        }
        return s.toString();
    }

    private static Set<String> publicNames() {
        Set<String> names = new TreeSet<>();
        for (String line : FACE) {
            names.add(line.substring(line.indexOf(' ') + 1, line.indexOf('(')));
        }
        return names;
    }

    private static void membersArePrivate(Class<?> c) {
        Set<String> publicNames = publicNames();
        for (Method m : c.getDeclaredMethods()) {
            boolean open = Modifier.isPublic(m.getModifiers());
            Check.isTrue(m + " is private", open || Modifier.isPrivate(m.getModifiers()));
            Check.isTrue(m + " bears the name of a public one", open || !publicNames.contains(m.getName()));
        }
        for (Field f : c.getDeclaredFields()) {
            Check.isTrue(f + " is private", f.getName().equals("NONE") || Modifier.isPrivate(f.getModifiers()));
        }
    }

    private static void classesInsideAreSmall() {
        List<Class<?>> all = new ArrayList<>(List.of(BakeTurns.class.getDeclaredClasses()));
        all.add(BakeTurns.class);
        Check.isTrue("some twelve classes", all.size() <= 12);
        for (Class<?> c : all) {
            Check.isTrue(c + " is static", c == BakeTurns.class || Modifier.isStatic(c.getModifiers()));
            Check.isTrue(c + " is private or package-visible",
                c == BakeTurns.class || (c.getModifiers() & (Modifier.PUBLIC | Modifier.PROTECTED)) == 0);
            int fields = 0;
            for (Field f : c.getDeclaredFields()) {
                boolean isStatic = Modifier.isStatic(f.getModifiers());
                Check.isTrue(f + " is static but not final", !isStatic || Modifier.isFinal(f.getModifiers()));
                Check.isTrue(f + " is static but no number", !isStatic || f.getType().isPrimitive());
                fields += isStatic ? 0 : 1;
            }
            Check.isTrue(c + " has some twenty fields", fields <= 20);
            for (Method m : c.getDeclaredMethods()) {
                Check.isTrue(m + " has at most seven parameters", m.getParameterCount() <= 7);
                Check.isTrue(m + " bears the name of a public one",
                    c == BakeTurns.class || !publicNames().contains(m.getName()));
            }
        }
    }

    private static void sourceKeepsToTheRules(String source) {
        Check.isTrue("signs 1 to 127", source.chars().allMatch(c -> c >= 1 && c <= 127));
        String code = source.replaceAll("(?s)/\\*.*?\\*/", " ").replaceAll("//[^\n]*", " ");
        for (String banned : BANNED) {
            Check.isTrue("found " + banned, !Pattern.compile(banned).matcher(code).find());
        }
        // A method of the file ends with the brace that stands under its first sign.
        int start = 0;
        int number = 0;
        for (String line : source.split("\n")) {
            number++;
            if (Pattern.matches("( {4}| {8})[a-zA-Z].*\\).*\\{", line)) {
                start = number;
            } else if (Pattern.matches("( {4}| {8})\\}", line) && start > 0) {
                Check.isTrue("the method at line " + start + " has some sixty lines", number - start <= 60);
                start = 0;
            }
        }
    }
}
