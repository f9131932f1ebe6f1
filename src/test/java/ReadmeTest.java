import java.io.IOException;
import java.lang.reflect.Method;
import java.lang.reflect.Modifier;
import java.nio.file.Files;
import java.nio.file.Path;
import java.util.List;
import java.util.Set;
import java.util.TreeSet;
import java.util.regex.Matcher;
import java.util.regex.Pattern;
import java.util.stream.Stream;

/** What README.md shows: each call in its blocks of Java answers what stands behind it, and nothing is left out. */
public final class ReadmeTest {
    private static final String MADE = "SwordAttic attic = new SwordAttic();";
    private static final Pattern CALL = Pattern.compile("attic\\.(\\w+)\\((.*)\\); *// (-?\\d+)(?:: .+)?");
    private static final Pattern TABLE_ROW = Pattern.compile("\\| (\\w+Test) \\|.*");
    private static final Pattern LETTER = Pattern.compile("'(.)'");
    private static final int MOST_CALLS = 512;

    private static SwordAttic attic = null;
    private static int calls = 0;
    private static final Set<String> shown = new TreeSet<>();

    public static void main(String[] args) throws IOException, ReflectiveOperationException {
        List<String> lines = Files.readAllLines(Path.of("README.md"));
        runBlocks(lines);
        everyCallIsShown();
        everyTestIsNamed(lines);
        Check.end("ReadmeTest");
    }

    private static void runBlocks(List<String> lines) throws ReflectiveOperationException {
        boolean isJava = false;
        for (String line : lines) {
            if (line.startsWith("```")) {
                isJava = line.equals("```java");
            } else if (isJava) {
                runLine(line);
            }
        }
    }

    private static void runLine(String line) throws ReflectiveOperationException {
        Matcher call = CALL.matcher(line);
        if (line.equals(MADE)) {
            attic = new SwordAttic();
            calls = 0;
        } else if (attic != null && call.matches()) {
            calls++;
            shown.add(call.group(1));
            Check.due(line, answer(call.group(1), call.group(2)), Long.parseLong(call.group(3)));
            Check.due(line + " is within the calls that an object is used for", calls <= MOST_CALLS ? 1 : 0, 1);
        } else {
            Check.due("a call with its answer: " + line, 0, 1);
        }
    }

    private static long answer(String name, String arguments) throws ReflectiveOperationException {
        String[] told = arguments.isEmpty() ? new String[0] : arguments.split(", ");
        for (Method m : SwordAttic.class.getDeclaredMethods()) {
            if (m.getName().equals(name) && m.getParameterCount() == told.length) {
                return ((Number) m.invoke(attic, values(told, m.getParameterTypes()))).longValue();
            }
        }
        throw new NoSuchMethodException(name + "(" + arguments + ")");
    }

    private static Object[] values(String[] told, Class<?>[] types) {
        Object[] values = new Object[told.length];
        for (int i = 0; i < told.length; i++) {
            Matcher letter = LETTER.matcher(told[i]);
            long value = letter.matches() ? letter.group(1).charAt(0) : Long.parseLong(told[i]);
            if (types[i] == long.class) {
                values[i] = value;
            } else {
                values[i] = Math.toIntExact(value);
            }
        }
        return values;
    }

    private static void everyCallIsShown() {
        for (Method m : SwordAttic.class.getDeclaredMethods()) {
            if (Modifier.isPublic(m.getModifiers())) {
                Check.due("is " + m.getName() + "() shown", shown.contains(m.getName()) ? 1 : 0, 1);
            }
        }
    }

    private static void everyTestIsNamed(List<String> lines) throws IOException {
        Set<String> named = new TreeSet<>();
        for (String line : lines) {
            Matcher row = TABLE_ROW.matcher(line);
            if (row.matches()) {
                named.add(row.group(1));
            }
        }
        Set<String> there = new TreeSet<>();
        try (Stream<Path> files = Files.list(Path.of("src/test/java"))) {
            files.map(f -> f.getFileName().toString()).filter(f -> f.endsWith("Test.java"))
                .forEach(f -> there.add(f.substring(0, f.length() - ".java".length())));
        }
        Check.due("tests named " + named + ", tests there " + there, named.equals(there) ? 1 : 0, 1);
        Check.due(".ci/run can be run", Files.isExecutable(Path.of(".ci/run")) ? 1 : 0, 1);
    }
}
