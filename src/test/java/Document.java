import java.io.IOException;
import java.nio.file.Files;
import java.nio.file.Path;
import java.util.ArrayList;
import java.util.List;
import java.util.regex.Matcher;
import java.util.regex.Pattern;

/** What tests look up in ../shared/DOC.md. */
final class Document {
    private static final Path PLACE = Path.of("../shared/DOC.md");

    private Document() {
    }

    static String text() throws IOException {
        return Files.readString(PLACE);
    }

    /** The constructor and the methods of the face, as they are declared, without public and the semicolon. */
    static List<String> face() throws IOException {
        return all("(?m)^    public (.*);$");
    }

    /** The face without answers and exceptions: names with their parameters. */
    static List<String> calls() throws IOException {
        return all("(?m)^    public (?:\\w+ )?(\\w+\\(.*?\\)).*;$");
    }

    /** The numbers of the promises, in the order of the document. */
    static List<String> promises() throws IOException {
        return all("(?m)^## Promise (\\d+): ");
    }

    /** The words that stand ahead of groups of calls. */
    static List<String> groups() throws IOException {
        return all("(?m)^Ahead of the calls .* the interface says: (.*)\\.$");
    }

    private static List<String> all(String pattern) throws IOException {
        return allOf(text(), pattern);
    }

    static List<String> allOf(String text, String pattern) {
        List<String> found = new ArrayList<>();
        Matcher matcher = Pattern.compile(pattern).matcher(text);
        while (matcher.find()) {
            found.add(matcher.group(1));
        }
        return found;
    }
}
