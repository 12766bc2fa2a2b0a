import java.lang.reflect.Field;
import java.lang.reflect.Method;
import java.lang.reflect.Modifier;
import java.util.Arrays;
import java.util.regex.Matcher;
import java.util.regex.Pattern;

/** "What it is" and "The public face": the class has what each line of the document declares. */
final class FaceSentences {
    private static final Pattern METHOD = Pattern.compile("public (int|long) (\\w+)\\((.*?)\\)( throws (.*))?;");

    private FaceSentences() {
    }

    static void all(String document) {
        Sentence.section("What it is");
        Sentence.tellsNoCase("A bakehouse that households share: an oven whose heat falls by itself, by openings and by "
            + "loaves, a hearth with three bands of places, kinds of dough that ripen and spoil, doughs that wait in a "
            + "line and are loaded when they can be, loaves that are done or burnt, logs that are brought, burnt, owed "
            + "and settled by use, turns that are swapped, reasons why a dough was not loaded sooner, what-if "
            + "questions, and texts of commands.");
        Sentence.holds("An object is used for at most 512 calls after it has been made; what later calls answer is free.",
            FaceSentences::answers512Calls);
        Sentence.section("The public face");
        String block = document.substring(document.indexOf("```java\n"), document.indexOf("}\n```"));
        for (String line : block.split("\n")) {
            String told = line.trim();
            if (told.equals("```java")) {
                Sentence.tellsNoCase(told);
            } else {
                Sentence.holds(told, () -> hasWhatIsTold(told));
            }
        }
        Check.within("the face has no more", () -> hasNoMore(block));
        Check.within("each promise declares as the face", () -> promisesDeclareAlike(document, block));
    }

    private static void answers512Calls() {
        BakeTurns x = new BakeTurns();
        for (int i = 1; i < 512; i++) {
            x.settle();
        }
        Check.same("the last call, after 511 that saved", 3, x.undo());
        BakeTurns y = new BakeTurns();
        for (int i = 1; i < 512; i++) {
            y.pass(100);
        }
        Check.same("the last call, after 511 passes", 51100, y.whole(4));
        BakeTurns z = new BakeTurns();
        long fresh = z.digest();
        for (int i = 2; i < 512; i++) {
            z.digest();
        }
        Check.same("the last call, after 511 hashes", fresh, z.digest());
    }

    private static void hasWhatIsTold(String line) {
        int modifiers = BakeTurns.class.getModifiers();
        Matcher method = METHOD.matcher(line);
        if (line.equals("public final class BakeTurns {")) {
            Check.isTrue("public and final", modifiers == (Modifier.PUBLIC | Modifier.FINAL));
        } else if (line.equals("public static final int NONE = -1;")) {
            hasNone();
        } else if (line.equals("public BakeTurns();")) {
            Check.same("public constructors without parameters", 1, Arrays.stream(BakeTurns.class.getConstructors())
                .filter(made -> made.getParameterCount() == 0).count());
        } else {
            Check.isTrue("no declaration that this test can read", method.matches());
            hasMethod(method);
        }
    }

    private static void hasNone() {
        try {
            Field none = BakeTurns.class.getField("NONE");
            Check.isTrue("public static final int", none.getType() == int.class
                && none.getModifiers() == (Modifier.PUBLIC | Modifier.STATIC | Modifier.FINAL));
        } catch (NoSuchFieldException e) {
            Check.isTrue("not there", false);
        }
        Check.same("NONE", -1, BakeTurns.NONE);
    }

    private static void hasMethod(Matcher told) {
        int parameters = told.group(3).isEmpty() ? 0 : told.group(3).split(",").length;
        Class<?>[] types = new Class<?>[parameters];
        Arrays.fill(types, int.class);
        String[] due = told.group(5) == null ? new String[0] : told.group(5).split(", ");
        try {
            Method method = BakeTurns.class.getDeclaredMethod(told.group(2), types);
            Check.isTrue("public, not static", method.getModifiers() == Modifier.PUBLIC);
            Check.isTrue("returns " + told.group(1), method.getReturnType().getName().equals(told.group(1)));
            String[] thrown = Arrays.stream(method.getExceptionTypes()).map(Class::getSimpleName).toArray(String[]::new);
            Check.isTrue("throws " + told.group(5), Arrays.equals(due, thrown));
        } catch (NoSuchMethodException e) {
            Check.isTrue("not there", false);
        }
    }

    private static void hasNoMore(String block) {
        Matcher told = METHOD.matcher(block);
        int due = 0;
        while (told.find()) {
            due++;
        }
        Check.same("public methods", due, Arrays.stream(BakeTurns.class.getDeclaredMethods())
            .filter(method -> !Modifier.isPrivate(method.getModifiers())).count());
        Check.same("fields that are not private", 1, Arrays.stream(BakeTurns.class.getDeclaredFields())
            .filter(field -> !Modifier.isPrivate(field.getModifiers())).count());
        Check.same("constructors", 1, BakeTurns.class.getDeclaredConstructors().length);
    }

    private static void promisesDeclareAlike(String document, String block) {
        Matcher declared = Pattern.compile("(?m)^`([^`]*\\)[^`]*)`: ").matcher(document);
        int declarations = 0;
        while (declared.find()) {
            declarations++;
            Check.isTrue(declared.group(1), block.contains("public " + declared.group(1) + ";"));
        }
        Check.same("promises", 27, declarations);
    }
}
