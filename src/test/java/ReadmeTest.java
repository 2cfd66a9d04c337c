import java.io.IOException;
import java.lang.reflect.Method;
import java.lang.reflect.Modifier;
import java.nio.file.Files;
import java.nio.file.Path;
import java.util.Set;
import java.util.TreeSet;
import java.util.regex.Matcher;
import java.util.regex.Pattern;
import java.util.stream.Stream;

/** README.md: its example answers what it says, and it names each call and each test. */
public final class ReadmeTest {
    private static final Path TESTS = Path.of("src/test/java");
    private static final Check check = new Check("ReadmeTest");

    public static void main(String[] args) throws IOException, ReflectiveOperationException {
        String readme = Files.readString(Path.of("README.md"));
        example(readme);
        calls(readme);
        tests(readme);
        check.end();
    }

    private static void example(String readme) throws ReflectiveOperationException {
        int from = readme.indexOf("```java\n");
        int to = readme.indexOf("```", from + 3);
        HolelessHouse house = new HolelessHouse();
        int made = 0;
        for (String line : readme.substring(from, to).split("\n")) {
            Matcher m = Pattern.compile("house\\.(\\w+)\\(([^)]*)\\); +// (-?\\d+)(:.*)?").matcher(line);
            check.holds("a line of the example that is not understood: " + line, m.matches() == line.startsWith("house."));
            if (!m.matches()) continue;
            made++;
            check.due(line, answer(house, m.group(1), m.group(2)), Long.parseLong(m.group(3)));
        }
        check.holds("calls in the example: " + made, made > 10);
    }

    private static long answer(HolelessHouse house, String name, String written) throws ReflectiveOperationException {
        String[] words = written.isEmpty() ? new String[0] : written.split(", ");
        Object[] given = new Object[words.length];
        for (int i = 0; i < words.length; i++) {
            if (words[i].equals("true") || words[i].equals("false")) given[i] = Boolean.valueOf(words[i]);
            else given[i] = Integer.valueOf(words[i]);
        }
        for (Method method : HolelessHouse.class.getMethods()) {
            if (method.getName().equals(name)) return ((Number) method.invoke(house, given)).longValue();
        }
        throw new NoSuchMethodException(name);
    }

    /** The tables have each call with as many arguments as it takes, and no other one. */
    private static void calls(String readme) {
        Set<String> want = new TreeSet<>();
        for (Method method : HolelessHouse.class.getDeclaredMethods()) {
            if (Modifier.isPublic(method.getModifiers())) want.add(method.getName() + " " + method.getParameterCount());
        }
        Set<String> got = new TreeSet<>();
        for (String line : readme.split("\n")) {
            if (!line.startsWith("| `")) continue;
            Matcher m = Pattern.compile("`(\\w+)\\(([^)]*)\\)`").matcher(line.substring(0, line.indexOf('|', 1)));
            while (m.find()) got.add(m.group(1) + " " + (m.group(2).isEmpty() ? 0 : m.group(2).split(",").length));
        }
        check.holds("calls in the tables: " + got + ", due are " + want, got.equals(want));
    }

    private static void tests(String readme) throws IOException {
        try (Stream<Path> files = Files.list(TESTS)) {
            for (Path file : files.sorted().toList()) {
                String name = file.getFileName().toString().replace(".java", "");
                check.holds("README.md names " + name, readme.contains(name));
            }
        }
    }
}
