import java.io.IOException;
import java.lang.reflect.InvocationTargetException;
import java.lang.reflect.Method;
import java.lang.reflect.Modifier;
import java.nio.file.Files;
import java.nio.file.Path;
import java.util.ArrayList;
import java.util.List;
import java.util.regex.Matcher;
import java.util.regex.Pattern;
import java.util.stream.Stream;

/** README.md tells how things stand: its example answers as it says, and it names each call and each test. */
public final class ReadmeTest {
    private static final Path README = Path.of("README.md");
    private static final Path TESTS = Path.of("src/test/java");
    private static final Pattern CALL = Pattern.compile("x\\.(\\w+)\\(([^;]*)\\);");
    private static final Pattern ANSWER = Pattern.compile("// ([^:]+): .*");

    private ReadmeTest() {
    }

    private static List<String> example(List<String> readme) {
        List<String> example = new ArrayList<>();
        boolean isExample = false;
        for (String line : readme) {
            if (line.startsWith("```")) {
                isExample = line.equals("```java");
            } else if (isExample && line.startsWith("x.")) {
                example.add(line);
            }
        }
        return example;
    }

    private static Object argument(String written) {
        if (written.equals("true") || written.equals("false")) {
            return Boolean.valueOf(written);
        }
        return written.startsWith("'") ? (int) written.charAt(1) : Integer.parseInt(written);
    }

    private static String answer(NestedSums x, String name, String arguments) throws IllegalAccessException {
        Object[] values = Stream.of(arguments.split(", ")).filter(written -> !written.isEmpty())
                .map(ReadmeTest::argument).toArray();
        for (Method method : NestedSums.class.getMethods()) {
            if (method.getName().equals(name)) {
                try {
                    return String.valueOf(method.invoke(x, values));
                } catch (InvocationTargetException e) {
                    return e.getCause().getClass().getSimpleName();
                }
            }
        }
        return "no such call";
    }

    private static void runExample(Due due, List<String> example) throws IllegalAccessException {
        NestedSums x = new NestedSums();
        due.is("the example has calls", example.isEmpty() ? 0 : 1, 1);
        for (String line : example) {
            due.at(line);
            String got = "no call";
            Matcher call = CALL.matcher(line);
            while (call.find()) {
                got = answer(x, call.group(1), call.group(2));
            }
            Matcher want = ANSWER.matcher(line);
            due.same("the last call", got, want.find() ? want.group(1) : "an answer behind //");
        }
    }

    private static void nameCalls(Due due, String readme) {
        due.at("the calls");
        for (Method method : NestedSums.class.getDeclaredMethods()) {
            if (Modifier.isPublic(method.getModifiers())) {
                due.is(method.getName(), readme.contains("| `" + method.getName() + "(") ? 1 : 0, 1);
            }
        }
    }

    private static void nameTests(Due due, String readme) throws IOException {
        due.at("the tests");
        List<Path> files;
        try (Stream<Path> all = Files.list(TESTS)) {
            files = all.sorted().toList();
        }
        for (Path file : files) {
            String name = file.getFileName().toString().replace(".java", "");
            String told = name.endsWith("Test") ? "| `" + name + "` |" : "`" + name + "`";
            due.is(name, readme.contains(told) ? 1 : 0, 1);
        }
    }

    public static void main(String[] args) throws IOException, IllegalAccessException {
        Due due = new Due("ReadmeTest");
        List<String> lines = Files.readAllLines(README);
        String readme = String.join("\n", lines);
        runExample(due, example(lines));
        nameCalls(due, readme);
        nameTests(due, readme);
        due.end();
    }
}
