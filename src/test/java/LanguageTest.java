import java.io.IOException;
import java.nio.file.Files;
import java.nio.file.Path;
import java.util.List;

/** What of ../shared/LANGUAGE.md can be seen from the lines of src/main/java/NestedSums.java. */
public final class LanguageTest {
    private static final String[] FORBIDDEN = {"->", "::", "Double.", "Float.", "Exact(", "finally", "try {", "try (",
        "catch (", "synchronized", "assert", "instanceof", "hashCode", "toString", "System.out", "nanoTime", "Random",
        "Thread", "protected", "package ", "lambda", "while (true)", "for (;;)", "@"};
    private static final int LONGEST_METHOD = 60;

    private LanguageTest() {
    }

    private static boolean isComment(String line) {
        String bare = line.trim();
        return bare.startsWith("//") || bare.startsWith("/*") || bare.startsWith("*");
    }

    public static void main(String[] args) throws IOException {
        Due due = new Due("LanguageTest");
        List<String> lines = Files.readAllLines(Path.of("src/main/java/NestedSums.java"));
        int start = -1;
        for (int k = 0; k < lines.size(); k++) {
            String line = lines.get(k);
            due.at("line " + (k + 1));
            due.is("its length is at most 120", line.length() <= 120 ? 1 : 0, 1);
            due.is("signs beyond 126", line.chars().filter(sign -> sign > 126).count(), 0);
            if (isComment(line)) {
                continue;
            }
            for (String word : FORBIDDEN) {
                due.is("it has " + word, line.contains(word) ? 1 : 0, 0);
            }
            if (line.startsWith("import ")) {
                due.same("import", line, "import java.util.Arrays;");
            }
            if (line.contains("new ") && !line.contains("throw new ")) {
                boolean isKept = line.contains(" final ") || line.contains("sheets[slot] = new Sheet()")
                        || line.contains("values = new int[");
                due.is("an object is made outside of a constructor", isKept ? 1 : 0, 1);
            }
            if (line.matches(" {4,8}[a-z].*[({]") && line.endsWith("{") && line.contains("(")) {
                start = k;
            }
            if (line.matches(" {4,8}}") && start >= 0) {
                due.is("a method of at most 60 lines", k - start + 1 <= LONGEST_METHOD ? 1 : 0, 1);
                start = -1;
            }
        }
        due.end();
    }
}
