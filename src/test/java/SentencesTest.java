import java.io.IOException;
import java.nio.file.Files;
import java.nio.file.Path;
import java.util.ArrayList;
import java.util.List;

/** The table src/test/SENTENCES.md: no sentence of the document is left out, no test is invented. */
final class SentencesTest {
    private static final Checks CHECKS = new Checks("SentencesTest");
    private static final Path DOCUMENT = Path.of("../shared/DOC.md");
    private static final Path TABLE = Path.of("src/test/SENTENCES.md");
    private static final Path TESTS = Path.of("src/test/java");
    private static final String PROMISE = "## Promise ";
    private static final String WITHOUT_TESTS = "## Sentences that name no answer";

    /** The promise is "" in a sentence that stands in no promise. */
    private record Sentence(String promise, String text) { }

    private record Row(Sentence sentence, String tests) { }

    public static void main(String[] args) throws IOException {
        List<Sentence> sentences = sentencesOfTheDocument();
        List<Row> rows = rowsOfTheTable();
        CHECKS.holds("the document has sentences", sentences.size() > 200);
        eachSentenceHasARow(sentences, rows);
        eachRowStandsInTheDocument(sentences, rows);
        for (Row row : rows) {
            testsStand(row);
        }
        CHECKS.end();
    }

    /** Without headings and the code block of the face, which FaceTest holds. */
    private static List<Sentence> sentencesOfTheDocument() throws IOException {
        List<Sentence> sentences = new ArrayList<>();
        String promise = "";
        boolean isCode = false;
        for (String line : Files.readAllLines(DOCUMENT)) {
            if (line.startsWith("```")) {
                isCode = !isCode;
            } else if (line.startsWith(PROMISE)) {
                promise = line.substring(PROMISE.length(), line.indexOf(':'));
            } else if (line.startsWith("#")) {
                promise = "";
            } else if (!isCode && !line.isBlank()) {
                for (String text : withoutItsSign(line).split("(?<=[.)])\\s+(?=[A-Z(])")) {
                    sentences.add(new Sentence(promise, text.strip()));
                }
            }
        }
        return sentences;
    }

    /** A line without the bullet or the signature of a method that it begins with. */
    private static String withoutItsSign(String line) {
        return line.replaceFirst("^- ", "").replaceFirst("^`[^`]*\\)[^`]*`: ", "");
    }

    private static List<Row> rowsOfTheTable() throws IOException {
        List<Row> rows = new ArrayList<>();
        boolean hasTests = true;
        for (String line : Files.readAllLines(TABLE)) {
            String[] cells = line.split(" *\\| *");
            if (line.startsWith(WITHOUT_TESTS)) {
                hasTests = false;
            } else if (cells.length >= 3 && !cells[1].matches("sentence|promise|---")) {
                boolean ofPromise = cells.length == 4;
                String tests = cells[cells.length - 1];
                CHECKS.holds("a row tells tests or why there are none: " + line, !tests.isEmpty());
                rows.add(new Row(
                        new Sentence(ofPromise ? cells[1] : "", cells[ofPromise ? 2 : 1]),
                        hasTests ? tests : ""));
            }
        }
        return rows;
    }

    private static void eachSentenceHasARow(List<Sentence> sentences, List<Row> rows) {
        for (Sentence sentence : sentences) {
            CHECKS.holds("no row for " + sentence,
                    rows.stream().anyMatch(row -> row.sentence().equals(sentence)));
        }
    }

    private static void eachRowStandsInTheDocument(List<Sentence> sentences, List<Row> rows) {
        for (Row row : rows) {
            CHECKS.holds("the document has not " + row, sentences.contains(row.sentence()));
        }
    }

    private static void testsStand(Row row) throws IOException {
        if (!row.tests().isEmpty()) {
            for (String name : row.tests().split(" ")) {
                String[] parts = name.split("\\.");
                String text = Files.readString(TESTS.resolve(parts[0] + ".java"));
                CHECKS.holds(name + " stands in its file",
                        text.contains("static void " + parts[1] + "()"));
                CHECKS.holds(name + " is called", text.contains("        " + parts[1] + "();"));
            }
        }
    }
}
