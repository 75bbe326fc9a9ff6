import java.io.IOException;
import java.nio.file.Files;
import java.nio.file.Path;
import java.util.ArrayList;
import java.util.List;

/** The source and the tests, beside the document: its face word by word, and its promises. */
public final class DocumentTest {
    private static final Path TESTS = Path.of("src/test/java");
    private static final String[] EDGES = {"EdgesOfRidesTest", "EdgesOfDisputesTest", "EdgesOfWeeksTest"};

    private DocumentTest() {
    }

    public static void main(String[] args) throws IOException {
        documentIsTheKnownOne();
        faceIsTheDocuments();
        groupsAreTheDocuments();
        promisesHaveTests();
        Check.end();
    }

    /** The other tests here compare nothing where the document is not found in its known form. */
    private static void documentIsTheKnownOne() throws IOException {
        Check.compare("calls of the face", "" + Document.face().size(), "26");
        Check.compare("groups of calls", "" + Document.groups().size(), "3");
        List<String> numbers = new ArrayList<>();
        for (int promise = 1; promise <= 26; promise++) {
            numbers.add("" + promise);
        }
        Check.compare("promises", Document.promises().toString(), numbers.toString());
    }

    private static String source() throws IOException {
        return Files.readString(Path.of("src/main/java/Wheelpay.java"));
    }

    /** Declarations go over several lines in the source where they are long. */
    private static void faceIsTheDocuments() throws IOException {
        String joined = source().replaceAll("\\s+", " ");
        List<String> declared = Document.allOf(joined, " public (?!final class)(.*?) \\{");
        Check.compare("what the source declares", declared.toString(), Document.face().toString());
    }

    private static void groupsAreTheDocuments() throws IOException {
        List<String> said = Document.allOf(source(), "(?m)^    // (---- .*)$");
        Check.compare("the first groups of the source",
            said.subList(0, Math.min(3, said.size())).toString(), Document.groups().toString());
    }

    private static void promisesHaveTests() throws IOException {
        String promises = Files.readString(TESTS.resolve("PromisesTest.java"));
        StringBuilder edges = new StringBuilder();
        for (String name : EDGES) {
            edges.append(Files.readString(TESTS.resolve(name + ".java")));
        }
        for (String number : Document.promises()) {
            boolean isRun = !Document.allOf(promises, "(?m)^        (promise" + number + "[A-Z]\\w*)\\(\\);$").isEmpty();
            Check.compare("PromisesTest runs promise " + number, "" + isRun, "true");
            boolean hasSentence = edges.indexOf("Check.sentence(\"" + number + ": ") >= 0;
            Check.compare("a sentence of promise " + number + " has a test", "" + hasSentence, "true");
        }
    }
}
