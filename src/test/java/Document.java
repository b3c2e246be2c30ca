import java.io.IOException;
import java.nio.file.Files;
import java.nio.file.Path;
import java.util.ArrayList;
import java.util.List;
import java.util.Map;
import java.util.Set;
import java.util.TreeMap;
import java.util.TreeSet;

/** ../shared/DOC.md in pieces: its sentences, and the parts of them that a semicolon ends, by promise. */
final class Document {
    private static final Path FILE = Path.of("../shared/DOC.md");
    private static final String PROMISE = "## Promise ";
    private static final String END_OF_PIECE = "(?<=[.;)])\\s+(?=[A-Z(])|;\\s+";
    /** Titles, names of parameters without a range, and the like: they name no boundary case. */
    private static final String PLAIN = "[A-Z][a-z]+, [a-z]+|All numbers are integers, but for a share\\."
            + "|what later calls answer is free\\.|Ahead of the calls .* ----.*"
            + "|- `(table|row|column|isRow)`: .*|- `number`: its number|Returns the (number|rule|property|hash)\\.?"
            + "|`.*`: Returns a (number|property of a (cell|table))\\.";

    /** The promise 0 is all that stands ahead of the promises. */
    private final Map<Integer, List<String>> pieces = new TreeMap<>();
    private final Map<Integer, StringBuilder> texts = new TreeMap<>();
    private final Set<String> quoted = new TreeSet<>();

    Document() {
        int promise = 0;
        boolean isCode = false;
        for (String line : lines()) {
            if (line.startsWith("## Not promised")) {
                break;
            }
            if (line.startsWith("```")) {
                isCode = !isCode;
            } else if (line.startsWith(PROMISE)) {
                promise = Integer.parseInt(line.substring(PROMISE.length(), line.indexOf(':')));
            } else if (!isCode && !line.isBlank() && !line.startsWith("#")) {
                take(promise, line.trim());
            }
        }
    }

    /** Without the document the tests of sentences run all the same; their words are not held against it then. */
    private static List<String> lines() {
        try {
            return Files.readAllLines(FILE);
        } catch (IOException e) {
            System.out.println("there is no " + FILE);
            return List.of();
        }
    }

    private void take(int promise, String line) {
        texts.computeIfAbsent(promise, key -> new StringBuilder()).append(line).append('\n');
        for (String piece : line.split(END_OF_PIECE)) {
            pieces.computeIfAbsent(promise, key -> new ArrayList<>()).add(piece);
        }
    }

    /** Whether the words stand there; the pieces that have them are quoted then. */
    boolean quotes(int promise, String words) {
        for (String piece : pieces.getOrDefault(promise, List.of())) {
            if (piece.contains(words) || words.contains(piece)) {
                quoted.add(promise + " " + piece);
            }
        }
        return texts.isEmpty() || texts.containsKey(promise) && texts.get(promise).indexOf(words) >= 0;
    }

    List<String> unquoted() {
        List<String> unquoted = new ArrayList<>();
        for (int promise : pieces.keySet()) {
            for (String piece : pieces.get(promise)) {
                boolean isIntroduction = piece.startsWith("Nested tables: ");
                if (!isIntroduction && !piece.matches(PLAIN) && !quoted.contains(promise + " " + piece)) {
                    unquoted.add("promise " + promise + ": " + piece);
                }
            }
        }
        return unquoted;
    }
}
