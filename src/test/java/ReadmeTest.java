import java.io.IOException;
import java.lang.reflect.Method;
import java.lang.reflect.Modifier;
import java.nio.file.DirectoryStream;
import java.nio.file.Files;
import java.nio.file.Path;
import java.util.Arrays;
import java.util.Set;
import java.util.TreeSet;
import java.util.regex.Matcher;
import java.util.regex.Pattern;

/** What README.md says holds: each call of its example, on one object and in order, and the tests that it names. */
public final class ReadmeTest {
    private static final Path TESTS = Path.of("src/test/java");
    private static final Pattern EXAMPLE = Pattern.compile("```java\n(.*?)```", Pattern.DOTALL);
    private static final Pattern CALL = Pattern.compile("field\\.(\\w+)\\(([-\\d, ]*)\\);\\s+// (-?\\w+)\\b.*");
    private static final Pattern NAME = Pattern.compile("`(\\w+Test)`");
    private static final String MADE = "RayField field = new RayField();";
    private static final Due due = new Due();

    public static void main(String[] args) throws IOException, ReflectiveOperationException {
        String readme = Files.readString(Path.of("README.md"));
        due.promise("README.md, the example");
        Matcher example = EXAMPLE.matcher(readme);
        boolean found = example.find();
        due.is("it has one", found, true);
        due.is("the calls that it shows", (found ? callsOf(example.group(1)) : Set.of()).equals(face()), true);
        due.promise("README.md, the tests");
        due.is("those that it names " + namesIn(readme), namesIn(readme).equals(tests()), true);
        due.end();
    }

    /** The names of the calls in the example, each of which has been made. */
    private static Set<String> callsOf(String example) throws ReflectiveOperationException {
        RayField field = new RayField();
        Set<String> names = new TreeSet<>();
        for (String line : example.split("\n")) {
            Matcher call = CALL.matcher(line);
            if (call.matches()) {
                names.add(call.group(1));
                String got = answer(field, call.group(1), numbers(call.group(2)));
                due.is(line + ": answered " + got + ", so what it tells", got.equals(call.group(3)), true);
            } else {
                due.is("'" + line + "' can be read", line.isEmpty() || line.equals(MADE), true);
            }
        }
        return names;
    }

    private static Object[] numbers(String written) {
        return written.isEmpty()
            ? new Object[0] : Arrays.stream(written.split(", ")).map(Integer::valueOf).toArray();
    }

    private static String answer(RayField field, String name, Object[] numbers) throws ReflectiveOperationException {
        Class<?>[] types = new Class<?>[numbers.length];
        Arrays.fill(types, int.class);
        Method method = RayField.class.getMethod(name, types);
        Object got = method.invoke(field, numbers);
        return method.getReturnType() == void.class ? "void" : String.valueOf(got);
    }

    private static Set<String> face() {
        Set<String> names = new TreeSet<>();
        for (Method method : RayField.class.getDeclaredMethods()) {
            if (Modifier.isPublic(method.getModifiers())) {
                names.add(method.getName());
            }
        }
        return names;
    }

    private static Set<String> namesIn(String readme) {
        Set<String> names = new TreeSet<>();
        Matcher name = NAME.matcher(readme);
        while (name.find()) {
            names.add(name.group(1));
        }
        return names;
    }

    private static Set<String> tests() throws IOException {
        Set<String> names = new TreeSet<>();
        try (DirectoryStream<Path> files = Files.newDirectoryStream(TESTS, "*Test.java")) {
            for (Path file : files) {
                names.add(file.getFileName().toString().replace(".java", ""));
            }
        }
        return names;
    }
}
