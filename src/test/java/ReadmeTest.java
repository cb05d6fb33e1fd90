import java.io.IOException;
import java.lang.reflect.InvocationTargetException;
import java.lang.reflect.Method;
import java.nio.file.Files;
import java.nio.file.Path;
import java.util.Arrays;
import java.util.Set;
import java.util.TreeSet;
import java.util.regex.Matcher;
import java.util.regex.Pattern;
import java.util.stream.Stream;

/** README.md: the calls that it shows, carried out as they stand there, and the tests it names. */
final class ReadmeTest {
    private static final Checks CHECKS = new Checks("ReadmeTest");
    private static final Path README = Path.of("README.md");
    private static final Path TESTS = Path.of("src/test/java");
    private static final String MADE = "LayeredImages images = new LayeredImages();";
    private static final Pattern CALL =
            Pattern.compile("images\\.(\\w+)\\((.*)\\); +// (-?\\d+|throws \\w+): \\S.*");
    private static final Pattern ROW = Pattern.compile("\\| `(\\w+)` \\| \\S.* \\|");

    public static void main(String[] args) throws IOException, ReflectiveOperationException {
        eachCallAnswersWhatStandsBehindIt();
        eachTestIsNamed();
        theRunOfTheTestsIsThere();
        CHECKS.end();
    }

    private static void eachCallAnswersWhatStandsBehindIt()
            throws IOException, ReflectiveOperationException {
        LayeredImages images = null;
        Set<String> shown = new TreeSet<>();
        boolean isJava = false;
        for (String line : Files.readAllLines(README)) {
            if (line.startsWith("```")) {
                isJava = line.equals("```java");
            } else if (isJava && line.equals(MADE)) {
                images = new LayeredImages();
            } else if (isJava && !line.isEmpty() && !line.startsWith("// ")) {
                Matcher call = CALL.matcher(line);
                CHECKS.holds("a call with its answer: " + line, images != null && call.matches());
                if (images != null && call.matches()) {
                    shown.add(call.group(1));
                    String got = answer(images, call.group(1), call.group(2));
                    CHECKS.holds(line + " answered " + got, got.equals(call.group(3)));
                }
            }
        }
        CHECKS.holds("each method is shown, but " + shown, shown.equals(namesOfTheFace()));
    }

    private static String answer(LayeredImages images, String name, String written)
            throws ReflectiveOperationException {
        Object[] numbers = written.isEmpty() ? new Object[0]
                : Arrays.stream(written.split(", ")).map(Integer::valueOf).toArray();
        Class<?>[] types = new Class<?>[numbers.length];
        Arrays.fill(types, int.class);
        Method method = LayeredImages.class.getMethod(name, types);
        try {
            return String.valueOf(method.invoke(images, numbers));
        } catch (InvocationTargetException e) {
            return "throws " + e.getCause().getClass().getSimpleName();
        }
    }

    private static Set<String> namesOfTheFace() {
        Set<String> names = new TreeSet<>();
        for (Method method : LayeredImages.class.getMethods()) {
            if (method.getDeclaringClass() == LayeredImages.class) {
                names.add(method.getName());
            }
        }
        return names;
    }

    private static void eachTestIsNamed() throws IOException {
        Set<String> named = new TreeSet<>();
        for (String line : Files.readAllLines(README)) {
            Matcher row = ROW.matcher(line);
            if (row.matches()) {
                named.add(row.group(1) + ".java");
            }
        }
        Set<String> there = new TreeSet<>();
        try (Stream<Path> files = Files.list(TESTS)) {
            files.map(file -> file.getFileName().toString())
                    .filter(name -> name.endsWith("Test.java")).forEach(there::add);
        }
        CHECKS.holds("named are " + named + ", there are " + there, named.equals(there));
    }

    private static void theRunOfTheTestsIsThere() throws IOException {
        CHECKS.holds("README.md says how the tests are run",
                Files.readString(README).contains("```sh\n.ci/run\n```"));
        CHECKS.holds(".ci/run can be run", Files.isExecutable(Path.of(".ci/run")));
    }
}
