import java.io.IOException;
import java.lang.reflect.Field;
import java.lang.reflect.Method;
import java.lang.reflect.Modifier;
import java.nio.file.Files;
import java.nio.file.Path;
import java.util.List;
import java.util.Set;
import java.util.regex.Matcher;
import java.util.regex.Pattern;

/** What of ../shared/LANGUAGE.md can be seen from the lines of src/main/java/NestedSums.java, and from its classes. */
public final class LanguageTest {
    private static final String[] FORBIDDEN = {"->", "::", "Double.", "Float.", "Exact(", "finally", "try {", "try (",
        "catch (", "synchronized", "assert", "instanceof", "hashCode", "toString", "System.out", "nanoTime", "Random",
        "Thread", "protected", "package ", "lambda", "while (true)", "for (;;)", "@"};
    private static final Pattern LIBRARY_CALL = Pattern.compile("\\b[A-Z][a-z]\\w*\\.[a-z]\\w*");
    private static final Set<String> LIBRARY = Set.of("Math.max", "Math.min", "System.arraycopy", "Arrays.fill");
    private static final int LONGEST_METHOD = 60;
    private static final int MOST_CLASSES = 12;
    private static final int MOST_FIELDS = 20;
    private static final int MOST_PARAMETERS = 7;

    private LanguageTest() {
    }

    private static boolean isComment(String line) {
        String bare = line.trim();
        return bare.startsWith("//") || bare.startsWith("/*") || bare.startsWith("*");
    }

    private static void lookAtCalls(Due due, String line) {
        Matcher call = LIBRARY_CALL.matcher(line.startsWith("import ") ? "" : line);
        while (call.find()) {
            due.is("a call that rule 4 lists: " + call.group(), LIBRARY.contains(call.group()) ? 1 : 0, 1);
        }
    }

    private static void lookAtClass(Due due, Class<?> type) {
        due.at(type.getSimpleName());
        int fields = 0;
        for (Field field : type.getDeclaredFields()) {
            boolean isStatic = Modifier.isStatic(field.getModifiers());
            fields += isStatic ? 0 : 1;
            boolean isRight = !isStatic || Modifier.isFinal(field.getModifiers());
            due.is("final if static: " + field.getName(), isRight ? 1 : 0, 1);
        }
        due.is("at most " + MOST_FIELDS + " fields", fields <= MOST_FIELDS ? 1 : 0, 1);
        for (Method method : type.getDeclaredMethods()) {
            due.is("at most seven parameters: " + method.getName(),
                    method.getParameterCount() <= MOST_PARAMETERS ? 1 : 0, 1);
        }
    }

    public static void main(String[] args) throws IOException {
        Due due = new Due("LanguageTest");
        List<String> lines = Files.readAllLines(Path.of("src/main/java/NestedSums.java"));
        int start = -1;
        for (int k = 0; k < lines.size(); k++) {
            String line = lines.get(k);
            due.at("line " + (k + 1));
            due.is("its length is at most 120", line.length() <= 120 ? 1 : 0, 1);
            due.is("signs beyond 126", line.chars().filter(sign -> sign > 126).count(), 0);
            if (isComment(line)) {
                continue;
            }
            lookAtCalls(due, line);
            for (String word : FORBIDDEN) {
                due.is("it has " + word, line.contains(word) ? 1 : 0, 0);
            }
            if (line.startsWith("import ")) {
                due.same("import", line, "import java.util.Arrays;");
            }
            if (line.contains("new ") && !line.contains("throw new ")) {
                boolean isKept = line.contains(" final ") || line.contains("sheets[slot] = new Sheet()")
                        || line.contains("values = new int[");
                due.is("an object is made outside of a constructor", isKept ? 1 : 0, 1);
            }
            if (line.matches(" {4,8}[a-z].*[({]") && line.endsWith("{") && line.contains("(")) {
                start = k;
            }
            if (line.matches(" {4,8}}") && start >= 0) {
                due.is("a method of at most 60 lines", k - start + 1 <= LONGEST_METHOD ? 1 : 0, 1);
                start = -1;
            }
        }
        Class<?>[] inside = NestedSums.class.getDeclaredClasses();
        due.is("at most " + MOST_CLASSES + " classes", inside.length < MOST_CLASSES ? 1 : 0, 1);
        lookAtClass(due, NestedSums.class);
        for (Class<?> type : inside) {
            lookAtClass(due, type);
        }
        due.end();
    }
}
