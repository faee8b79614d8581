import java.io.File;
import java.io.IOException;
import java.nio.charset.StandardCharsets;
import java.nio.file.DirectoryStream;
import java.nio.file.Files;
import java.nio.file.Path;
import java.util.regex.Matcher;
import java.util.regex.Pattern;

/** README.md: it tells of the whole face and of every test; its example compiles and does what it says. */
final class ReadmeTest {
    private static final String DOCUMENT = "../shared/DOC.md";
    private final Checks checks = new Checks();
    private final String readme;

    private ReadmeTest() throws IOException {
        readme = Files.readString(Path.of("README.md"));
    }

    public static void main(String[] args) throws Exception {
        ReadmeTest test = new ReadmeTest();
        test.tellsOfTheFace();
        test.tellsOfTheTests();
        test.exampleDoesWhatItSays();
        test.checks.end("ReadmeTest");
    }

    /** Every call stands as the document's "The public face" has it, and every name with its number. */
    private void tellsOfTheFace() throws IOException {
        Matcher call = Pattern.compile("(?m)^    public (\\w[^=;{]*\\(.*\\));$").matcher(Files.readString(Path.of(DOCUMENT)));
        int calls = 0;
        while (call.find()) {
            calls++;
            checks.holds("README.md tells of " + call.group(1), readme.contains("| `" + call.group(1) + "` |"));
        }
        checks.due("the document's calls, the constructor among them", calls, 17);
        String[] names = {"`NONE` (-1)", "`BAD` (-2)", "`NO` (-3)", "`FULL` (-4)"};
        for (String name : names) {
            checks.holds("README.md tells of " + name, readme.contains(name));
        }
    }

    private void tellsOfTheTests() throws IOException {
        try (DirectoryStream<Path> files = Files.newDirectoryStream(Path.of("src/test/java"), "*.java")) {
            for (Path file : files) {
                String name = file.getFileName().toString().replace(".java", "");
                checks.holds("README.md tells of " + name, readme.contains("`" + name + "`"));
            }
        }
        checks.holds("README.md tells how to run them", readme.contains("bash .ci/run"));
    }

    private String block(String kind) {
        Matcher found = Pattern.compile("(?s)```" + kind + "\n(.*?)```").matcher(readme);
        return found.find() ? found.group(1) : "";
    }

    private void exampleDoesWhatItSays() throws Exception {
        Path out = Files.createTempDirectory("readme");
        Path source = out.resolve("Example.java");
        Files.writeString(source, block("java"));
        String classes = System.getProperty("java.class.path") + File.pathSeparator + out;
        String compiled = printedBy("javac", "-encoding", "UTF-8", "-cp", classes, "-d", out.toString(), source.toString());
        checks.holds("javac of the example: " + compiled, compiled.isEmpty());
        String printed = printedBy("java", "-cp", classes, "Example");
        String told = block("text");
        checks.holds("the example prints\n" + printed + "and README.md tells\n" + told, printed.equals(told));
        checks.holds("it prints something", !printed.isEmpty());
        Files.delete(source);
        Files.deleteIfExists(out.resolve("Example.class"));
        Files.delete(out);
    }

    /** What the command prints, and its exit code if that is not 0; what it complains of goes where ours goes. */
    private static String printedBy(String... command) throws Exception {
        Process process = new ProcessBuilder(command).redirectError(ProcessBuilder.Redirect.INHERIT).start();
        String printed = new String(process.getInputStream().readAllBytes(), StandardCharsets.UTF_8);
        int exit = process.waitFor();
        return printed.replace("\r\n", "\n") + (exit == 0 ? "" : "exit code " + exit + "\n");
    }
}
