import java.io.IOException;
import java.nio.file.Files;
import java.nio.file.Path;
import java.util.List;
import java.util.Set;
import java.util.TreeSet;

/** The table src/test/SENTENCES.md: its sentences, its tests, and that nothing is left out. */
final class SentencesTest {
    private static final Checks CHECKS = new Checks("SentencesTest");
    private static final Path DOCUMENT = Path.of("../shared/DOC.md");
    private static final Path TABLE = Path.of("src/test/SENTENCES.md");
    private static final Path TESTS = Path.of("src/test/java");

    public static void main(String[] args) throws IOException {
        String document = Files.readString(DOCUMENT).replaceAll("\\s+", " ");
        Set<Integer> promises = new TreeSet<>();
        for (String line : Files.readAllLines(TABLE)) {
            String[] cells = line.split(" *\\| *");
            if (cells.length >= 3 && !cells[1].matches("sentence|promise|---")) {
                int sentence = cells.length - 2;
                if (sentence == 2) {
                    promises.add(Integer.valueOf(cells[1]));
                }
                String part = sentence == 2 ? ofPromise(document, cells[1]) : document;
                CHECKS.holds("the document has not: " + line, part.contains(cells[sentence]));
                testsStand(cells[sentence + 1]);
            }
        }
        CHECKS.same("promises with a sentence", 34, promises.size());
        eachThrowsClauseHasARow();
        CHECKS.end();
    }

    private static void eachThrowsClauseHasARow() throws IOException {
        List<String> rows = Files.readAllLines(TABLE);
        String promise = "";
        for (String line : Files.readAllLines(DOCUMENT)) {
            if (line.startsWith("## Promise ")) {
                promise = line.substring("## Promise ".length(), line.indexOf(':'));
            } else if (line.startsWith("Throws ")) {
                String row = "| " + promise + " | " + line.strip() + " | ";
                CHECKS.holds("no row for " + row, rows.stream().anyMatch(r -> r.startsWith(row)));
            }
        }
    }

    private static String ofPromise(String document, String promise) {
        int begin = document.indexOf("## Promise " + promise + ":");
        int end = document.indexOf("## ", begin + 1);
        CHECKS.holds("no promise " + promise, begin >= 0 && end > begin);
        return begin >= 0 && end > begin ? document.substring(begin, end) : "";
    }

    private static void testsStand(String names) throws IOException {
        for (String name : names.split(" ")) {
            String[] parts = name.split("\\.");
            String text = Files.readString(TESTS.resolve(parts[0] + ".java"));
            CHECKS.holds(name + " stands in its file",
                    text.contains("static void " + parts[1] + "()"));
            CHECKS.holds(name + " is called", text.contains("        " + parts[1] + "();"));
        }
    }
}
