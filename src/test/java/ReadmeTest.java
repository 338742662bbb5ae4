import java.io.IOException;
import java.lang.reflect.Method;
import java.lang.reflect.Modifier;
import java.nio.file.Files;
import java.nio.file.Path;
import java.util.HashSet;
import java.util.List;
import java.util.Set;
import java.util.regex.Matcher;
import java.util.regex.Pattern;
import java.util.stream.Stream;

/** What README.md says: its run of calls, and that no call and no test is left out; runs in the project's directory. */
public final class ReadmeTest {
    private static final Pattern CALL = Pattern.compile("^x\\.(\\w+)\\(([^)]*)\\);\\s*// (-?\\d+)");

    public static void main(String[] args) throws Exception {
        List<String> lines = Files.readAllLines(Path.of("README.md"));
        Set<String> called = run(lines);
        for (Method m : ThirtyThreeBelow.class.getDeclaredMethods()) {
            if (Modifier.isPublic(m.getModifiers())) {
                Due.so("README.md calls " + m.getName(), called.contains(m.getName()));
            }
        }
        testsNamed(lines);
        Due.end();
    }

    private static Set<String> run(List<String> lines) throws ReflectiveOperationException {
        Set<String> called = new HashSet<>();
        ThirtyThreeBelow x = new ThirtyThreeBelow();
        for (String line : lines) {
            Matcher call = CALL.matcher(line);
            if (call.find()) {
                called.add(call.group(1));
                Due.is("README.md: " + call.group(), answer(x, call.group(1), call.group(2)), Long.parseLong(call.group(3)));
            } else {
                Due.so("a call without its answer: " + line, !line.startsWith("x."));
            }
        }
        return called;
    }

    private static long answer(ThirtyThreeBelow x, String name, String in) throws ReflectiveOperationException {
        String[] numbers = in.isEmpty() ? new String[0] : in.split(", ");
        for (Method m : ThirtyThreeBelow.class.getDeclaredMethods()) {
            if (m.getName().equals(name) && Modifier.isPublic(m.getModifiers())) {
                return ((Number) m.invoke(x, values(m.getParameterTypes(), numbers))).longValue();
            }
        }
        throw new NoSuchMethodException(name);
    }

    private static Object[] values(Class<?>[] types, String[] numbers) {
        Object[] values = new Object[numbers.length];
        for (int i = 0; i < values.length; i++) {
            if (types[i] == long.class) {
                values[i] = Long.valueOf(numbers[i]);
            } else {
                values[i] = Integer.valueOf(numbers[i]);
            }
        }
        return values;
    }

    private static void testsNamed(List<String> lines) throws IOException {
        try (Stream<Path> files = Files.list(Path.of("src/test/java"))) {
            for (Path file : (Iterable<Path>) files::iterator) {
                String name = file.getFileName().toString().replace(".java", "");
                if (name.endsWith("Test")) {
                    Pattern row = Pattern.compile("^\\|.*\\b" + name + "\\b.*\\|.*\\|$");
                    Due.so("README.md has a row for " + name, lines.stream().anyMatch(line -> row.matcher(line).find()));
                }
            }
        }
    }
}
