import java.nio.file.Files;
import java.nio.file.Path;
import java.util.Set;
import java.util.TreeSet;

/** The clauses are the whole document and nothing else, and each that says something has its tests. */
public final class ClausesTest {
    private static final Path DOCUMENT = Path.of("../shared/DOC.md");
    private static final Check CHECK = new Check("ClausesTest");

    public static void main(String[] args) throws Exception {
        wholeDocument();
        eachHasTests();
        CHECK.end();
    }

    private static void wholeDocument() throws Exception {
        String left = withoutSpaces(Files.readString(DOCUMENT));
        for (Clauses.Clause clause : Clauses.all()) {
            String text = withoutSpaces(clause.text());
            boolean next = left.startsWith(text);
            CHECK.holds("'" + clause.text() + "' comes next in the document, where stands '" + begin(left) + "'", next);
            if (!next) {
                return;
            }
            left = left.substring(text.length());
        }
        CHECK.holds("no clause for '" + begin(left) + "'", left.isEmpty());
    }

    /** So that it does not matter where lines end. */
    private static String withoutSpaces(String text) {
        return text.replaceAll("\\s+", "");
    }

    private static String begin(String text) {
        return text.substring(0, Math.min(60, text.length()));
    }

    private static void eachHasTests() {
        Set<String> numbers = SentencesTest.sentences().numbers();
        Set<String> unnamed = new TreeSet<>(numbers);
        for (Clauses.Clause clause : Clauses.all()) {
            CHECK.holds("'" + clause.text() + "' has a test", clause.silent() == clause.tests().isEmpty());
            for (String test : clause.tests()) {
                CHECK.holds("there is a test " + test, numbers.contains(test) || test.equals("FaceTest"));
                unnamed.remove(test);
            }
        }
        CHECK.holds("each test is of a clause, but for " + unnamed, unnamed.isEmpty());
    }
}
