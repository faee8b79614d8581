import java.io.ByteArrayOutputStream;
import java.io.IOException;
import java.io.PrintStream;
import java.net.URL;
import java.net.URLClassLoader;
import java.nio.charset.StandardCharsets;
import java.nio.file.DirectoryStream;
import java.nio.file.Files;
import java.nio.file.Path;
import java.util.regex.Matcher;
import java.util.regex.Pattern;
import javax.tools.JavaCompiler;
import javax.tools.ToolProvider;

/** README.md: it tells of the whole face and of every test; its example compiles and does what it says. */
final class ReadmeTest {
    private static final String DOCUMENT = "../shared/DOC.md";
    private final Checks checks = new Checks();
    private final String readme;

    private ReadmeTest() throws IOException {
        readme = Files.readString(Path.of("README.md"));
    }

    public static void main(String[] args) throws Exception {
        ReadmeTest test = new ReadmeTest();
        test.tellsOfTheFace();
        test.tellsOfTheTests();
        test.exampleDoesWhatItSays();
        test.checks.end("ReadmeTest");
    }

    /** Every call stands as the document's "The public face" has it, and every name with its number. */
    private void tellsOfTheFace() throws IOException {
        Matcher call = Pattern.compile("(?m)^    public (\\w[^=;{]*\\(.*\\));$").matcher(Files.readString(Path.of(DOCUMENT)));
        int calls = 0;
        while (call.find()) {
            calls++;
            checks.holds("README.md tells of " + call.group(1), readme.contains("| `" + call.group(1) + "` |"));
        }
        checks.due("the document's calls, the constructor among them", calls, 17);
        String[] names = {"`NONE` (-1)", "`BAD` (-2)", "`NO` (-3)", "`FULL` (-4)"};
        for (String name : names) {
            checks.holds("README.md tells of " + name, readme.contains(name));
        }
    }

    private void tellsOfTheTests() throws IOException {
        try (DirectoryStream<Path> files = Files.newDirectoryStream(Path.of("src/test/java"), "*.java")) {
            for (Path file : files) {
                String name = file.getFileName().toString().replace(".java", "");
                checks.holds("README.md tells of " + name, readme.contains("`" + name + "`"));
            }
        }
        checks.holds("README.md tells how to run them", readme.contains("bash .ci/run"));
    }

    private String block(String kind) {
        Matcher found = Pattern.compile("(?s)```" + kind + "\n(.*?)```").matcher(readme);
        return found.find() ? found.group(1) : "";
    }

    private void exampleDoesWhatItSays() throws Exception {
        Path out = Files.createTempDirectory("readme");
        Path source = out.resolve("Example.java");
        Files.writeString(source, block("java"));
        JavaCompiler compiler = ToolProvider.getSystemJavaCompiler();
        String classes = System.getProperty("java.class.path");
        checks.due("javac of the example", compiler.run(null, null, null,
            "-encoding", "UTF-8", "-cp", classes, "-d", out.toString(), source.toString()), 0);
        String told = block("text");
        String printed = printedBy(out);
        checks.holds("the example prints\n" + printed + "and README.md tells\n" + told, printed.equals(told));
        checks.holds("it prints something", printed.length() > 0);
        Files.delete(source);
        Files.deleteIfExists(out.resolve("Example.class"));
        Files.delete(out);
    }

    /** What the class Example in this directory prints; nothing if it is not there. */
    private static String printedBy(Path directory) throws Exception {
        if (!Files.exists(directory.resolve("Example.class"))) {
            return "";
        }
        PrintStream before = System.out;
        ByteArrayOutputStream bytes = new ByteArrayOutputStream();
        try (URLClassLoader loader = new URLClassLoader(new URL[] {directory.toUri().toURL()})) {
            System.setOut(new PrintStream(bytes, true, StandardCharsets.UTF_8));
            loader.loadClass("Example").getMethod("main", String[].class).invoke(null, (Object) new String[0]);
        } finally {
            System.setOut(before);
        }
        return bytes.toString(StandardCharsets.UTF_8).replace("\r\n", "\n");
    }
}
