import java.io.IOException;
import java.lang.reflect.InvocationTargetException;
import java.lang.reflect.Method;
import java.lang.reflect.Modifier;
import java.nio.charset.StandardCharsets;
import java.nio.file.Files;
import java.nio.file.Path;
import java.util.Map;
import java.util.Set;
import java.util.TreeMap;
import java.util.TreeSet;
import java.util.regex.Matcher;
import java.util.regex.Pattern;
import java.util.stream.Stream;

/** README.md holds: its calls answer what stands behind them, and it names every call and every test. */
public final class ReadmeTest {
    private static final Pattern CODE = Pattern.compile("(?s)```java\n(.*?)```");
    private static final Pattern CALL =
        Pattern.compile("oven\\.(\\w+)\\(([-0-9, ]*)\\);\\s*// (-?\\d+|throws \\w+)(:.*)?");
    private static final Pattern TEXT =
        Pattern.compile("for \\(char c : \"([^\"]*)\"\\.toCharArray\\(\\)\\) oven\\.type\\(c\\);");
    private static final Pattern NEW = Pattern.compile("BakeTurns oven = new BakeTurns\\(\\);");
    private static final Pattern ROW_OF_A_CALL = Pattern.compile("(?m)^\\| `(\\w+)\\(([^)]*)\\)` \\|");
    private static final Pattern ROW_OF_A_TEST = Pattern.compile("(?m)^\\| (\\w+Test) \\|");

    private ReadmeTest() {
    }

    public static void main(String[] args) throws IOException {
        String page = Files.readString(Path.of("README.md"), StandardCharsets.UTF_8);
        Map<String, Method> face = face();
        examplesHold(page, face);
        everyCallHasARow(page, face);
        everyTestHasARow(page);
        Check.end();
    }

    private static Map<String, Method> face() {
        Map<String, Method> face = new TreeMap<>();
        for (Method m : BakeTurns.class.getDeclaredMethods()) {
            if (Modifier.isPublic(m.getModifiers())) {
                face.put(m.getName(), m);
            }
        }
        return face;
    }

    private static void examplesHold(String page, Map<String, Method> face) {
        BakeTurns oven = new BakeTurns();
        int calls = 0;
        Matcher code = CODE.matcher(page);
        while (code.find()) {
            for (String line : code.group(1).split("\n")) {
                Matcher call = CALL.matcher(line);
                Matcher text = TEXT.matcher(line);
                if (call.matches()) {
                    calls++;
                    String got = answerOf(oven, face.get(call.group(1)), call.group(2));
                    Check.isTrue("README.md: " + line + " (answered " + got + ")", call.group(3).equals(got));
                } else if (text.matches()) {
                    text.group(1).chars().forEach(oven::type);
                } else {
                    Check.isTrue("README.md, not understood: " + line, NEW.matcher(line).matches());
                }
            }
        }
        Check.isTrue("README.md has examples", calls > 0);
    }

    private static String answerOf(BakeTurns oven, Method method, String numbers) {
        if (method == null) {
            return "no such call";
        }
        Object[] values = Stream.of(numbers.split(",")).map(String::trim).filter(s -> !s.isEmpty())
            .map(Integer::valueOf).toArray();
        try {
            return String.valueOf(method.invoke(oven, values));
        } catch (InvocationTargetException e) {
            return "throws " + e.getCause().getClass().getSimpleName();
        } catch (IllegalAccessException | IllegalArgumentException e) {
            return "no such call";
        }
    }

    private static void everyCallHasARow(String page, Map<String, Method> face) {
        Set<String> told = new TreeSet<>();
        Matcher row = ROW_OF_A_CALL.matcher(page);
        while (row.find()) {
            told.add(row.group(1));
            Method method = face.get(row.group(1));
            int numbers = row.group(2).isEmpty() ? 0 : row.group(2).split(",").length;
            Check.isTrue("README.md: " + row.group(), method != null && method.getParameterCount() == numbers);
        }
        Check.isTrue("README.md has rows for " + told + ", due are " + face.keySet(), told.equals(face.keySet()));
    }

    private static void everyTestHasARow(String page) throws IOException {
        Set<String> told = new TreeSet<>();
        Matcher row = ROW_OF_A_TEST.matcher(page);
        while (row.find()) {
            told.add(row.group(1));
        }
        Set<String> due = new TreeSet<>();
        try (Stream<Path> files = Files.list(Path.of("src/test/java"))) {
            files.map(file -> file.getFileName().toString()).filter(name -> name.endsWith("Test.java"))
                .forEach(name -> due.add(name.replace(".java", "")));
        }
        Check.isTrue("README.md has rows for the tests " + told + ", due are " + due, told.equals(due));
    }
}
