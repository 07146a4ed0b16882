import java.io.IOException;
import java.lang.reflect.InvocationTargetException;
import java.lang.reflect.Method;
import java.nio.file.Files;
import java.nio.file.Path;
import java.util.List;
import java.util.TreeSet;
import java.util.regex.Matcher;
import java.util.regex.Pattern;
import java.util.stream.Collectors;
import java.util.stream.Stream;

/** README.md: each call in its java blocks answers what stands behind it, and its table names each test there is. */
public final class ReadmeTest {
    private static final Pattern CALL = Pattern.compile("moor\\.(\\w+)\\(([-0-9, ]*)\\); +// (-?[0-9]+): .+");
    private static final Pattern WRITE = Pattern.compile("write\\(moor, \"(.*)\"\\);");
    private static final Pattern ROW = Pattern.compile("\\| (\\w+Test) \\| .+ \\|");
    private static final int FEWEST_CALLS = 40;

    private static final SaltPeace MOOR = new SaltPeace();
    private static int calls = 0;

    public static void main(String[] args) throws IOException, ReflectiveOperationException {
        Path readme = Path.of(System.getProperty("readme", "README.md"));
        List<String> lines = Files.readAllLines(readme);
        boolean isJava = false;
        TreeSet<String> named = new TreeSet<>();
        for (String line : lines) {
            if (line.startsWith("```")) {
                isJava = line.equals("```java");
            } else if (isJava) {
                run(line);
            }
            Matcher row = ROW.matcher(line);
            if (row.matches()) {
                named.add(row.group(1));
            }
        }
        Due.due("README.md has calls enough", calls >= FEWEST_CALLS ? 1 : 0, 1);
        TreeSet<String> there = tests(readme.toAbsolutePath().resolveSibling("src/test/java"));
        Due.due("README.md names " + named + ", there are " + there, named.equals(there) ? 1 : 0, 1);
        Due.end("ReadmeTest");
    }

    private static void run(String line) throws ReflectiveOperationException {
        Matcher call = CALL.matcher(line);
        Matcher write = WRITE.matcher(line);
        if (call.matches()) {
            calls++;
            Due.due("README.md: " + line, answer(call.group(1), call.group(2)), Long.parseLong(call.group(3)));
        } else if (write.matches()) {
            Due.feed(MOOR, write.group(1));
        } else {
            Due.due("README.md can be followed: " + line,
                line.equals("SaltPeace moor = new SaltPeace();") && calls == 0 ? 1 : 0, 1);
        }
    }

    private static long answer(String name, String numbers) throws ReflectiveOperationException {
        String[] parts = numbers.isEmpty() ? new String[0] : numbers.split(", ");
        Object[] with = new Object[parts.length];
        Class<?>[] types = new Class<?>[parts.length];
        for (int i = 0; i < parts.length; i++) {
            with[i] = Integer.parseInt(parts[i]);
            types[i] = int.class;
        }
        try {
            Method method = SaltPeace.class.getMethod(name, types);
            return ((Number) method.invoke(MOOR, with)).longValue();
        } catch (InvocationTargetException thrown) {
            throw new IllegalStateException(name + "(" + numbers + ") has thrown", thrown.getCause());
        }
    }

    private static TreeSet<String> tests(Path folder) throws IOException {
        try (Stream<Path> files = Files.list(folder)) {
            return files.map(file -> file.getFileName().toString())
                .filter(name -> name.endsWith("Test.java"))
                .map(name -> name.substring(0, name.length() - ".java".length()))
                .collect(Collectors.toCollection(TreeSet::new));
        }
    }
}
