import java.io.ByteArrayOutputStream;
import java.io.IOException;
import java.io.PrintStream;
import java.net.URL;
import java.net.URLClassLoader;
import java.nio.charset.StandardCharsets;
import java.nio.file.DirectoryStream;
import java.nio.file.Files;
import java.nio.file.Path;
import java.util.ArrayList;
import java.util.Collections;
import java.util.List;
import java.util.TreeSet;
import javax.tools.ToolProvider;

/** README.md stands, and says how to use the class and how to run its tests; what it says holds. */
public final class ReadmeTest {
    private static final Path README = Path.of("README.md");
    private static final Path OUT = Path.of("out", "readme");
    private static final String EXAMPLE = "Trip";

    private ReadmeTest() {
    }

    public static void main(String[] args) throws Exception {
        boolean stands = Files.isRegularFile(README);
        Check.compare("README.md stands", "" + stands, "true");
        if (stands) {
            String text = Files.readString(README);
            usesTheClass(section(text, "How to use the class"));
            runsTheTests(section(text, "How to run its tests"));
        }
        Check.end();
    }

    /** What stands between the heading and the next one; nothing if there is no such heading. */
    private static String section(String text, String heading) {
        String start = "\n## " + heading + "\n";
        int from = text.indexOf(start);
        Check.compare("README.md has a section " + heading, "" + (from >= 0), "true");
        if (from < 0) {
            return "";
        }
        int to = text.indexOf("\n## ", from + 1);
        return text.substring(from + start.length(), to < 0 ? text.length() : to);
    }

    private static void holds(String part, String words) {
        Check.compare("README.md names " + words, "" + part.contains(words), "true");
    }

    // ---- how to use the class

    private static void usesTheClass(String part) throws Exception {
        holds(part, "src/main/java/Wheelpay.java");
        holds(part, "    javac -d out src/main/java/Wheelpay.java " + EXAMPLE + ".java\n");
        holds(part, "    java -cp out " + EXAMPLE + "\n");
        for (Class<?> kind : List.of(Given.OUT, Given.ARGUMENT, Given.STATE)) {
            holds(part, "`" + kind.getSimpleName() + "`");
        }
        List<String> named = Document.allOf(part, "(?m)^\\| `(.*?)` \\| .+ \\|$");
        Check.compare("the calls that README.md names", named.toString(), Document.calls().toString());
        Check.compare("what its program prints", printed(block(part, "java")), block(part, "text"));
    }

    private static String block(String part, String kind) {
        List<String> found = Document.allOf(part, "(?s)```" + kind + "\n(.*?)```");
        Check.compare("blocks of " + kind, "" + found.size(), "1");
        return found.isEmpty() ? "" : found.get(0);
    }

    private static String printed(String program) throws Exception {
        Files.createDirectories(OUT);
        Path file = OUT.resolve(EXAMPLE + ".java");
        Files.writeString(file, program);
        int code = ToolProvider.getSystemJavaCompiler().run(null, null, null,
            "-Xlint:all", "-Werror", "-cp", System.getProperty("java.class.path"),
            "-d", OUT.toString(), file.toString());
        return code == 0 ? outputOfMain() : "nothing, as it does not compile";
    }

    private static String outputOfMain() throws Exception {
        PrintStream usual = System.out;
        ByteArrayOutputStream bytes = new ByteArrayOutputStream();
        try (URLClassLoader loader = new URLClassLoader(new URL[] {OUT.toUri().toURL()})) {
            System.setOut(new PrintStream(bytes, true, StandardCharsets.UTF_8));
            loader.loadClass(EXAMPLE).getMethod("main", String[].class).invoke(null, (Object) new String[0]);
        } finally {
            System.setOut(usual);
        }
        return bytes.toString(StandardCharsets.UTF_8).replace(System.lineSeparator(), "\n");
    }

    // ---- how to run its tests

    private static void runsTheTests(String part) throws IOException {
        holds(part, "    .ci/run\n");
        holds(part, "`../shared/tests`");
        Check.compare(".ci/run can be run", "" + Files.isExecutable(Path.of(".ci/run")), "true");
        List<String> named = new ArrayList<>(new TreeSet<>(Document.allOf(part, "`(\\w+Test)`")));
        Check.compare("the tests that README.md names", named.toString(), testsThatStand().toString());
    }

    private static List<String> testsThatStand() throws IOException {
        List<String> names = new ArrayList<>();
        try (DirectoryStream<Path> files = Files.newDirectoryStream(Path.of("src/test/java"), "*Test.java")) {
            for (Path file : files) {
                names.add(file.getFileName().toString().replace(".java", ""));
            }
        }
        Collections.sort(names);
        return names;
    }
}
