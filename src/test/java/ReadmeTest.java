import java.io.ByteArrayOutputStream;
import java.io.IOException;
import java.io.PrintStream;
import java.nio.charset.StandardCharsets;
import java.nio.file.DirectoryStream;
import java.nio.file.Files;
import java.nio.file.Path;

/** README.md, read from the folder in which the tests are run: its program, what that prints, its tables of tests. */
final class ReadmeTest {
    private static final Path README = Path.of("README.md");
    private static final Path TESTS = Path.of("src", "test", "java");

    public static void main(String[] args) throws IOException {
        if (!Files.isRegularFile(README)) {
            System.out.println("there is no README.md here: run it in the project's folder");
            System.exit(1);
        }
        String readme = read(README);
        Check.sentence("README.md: the program");
        Check.holds("Example.java stands in it", readme.contains(block("java", read(TESTS.resolve("Example.java")))));
        Check.sentence("README.md: it prints");
        String printed = printedByExample();
        Check.holds("what Example prints stands in it, it prints\n" + printed, readme.contains(block("text", printed)));
        Check.sentence("README.md: what stands in the tables of tests");
        tables(readme);
        Check.sentence("README.md: what stands in the table of calls");
        calls(readme);
        Check.end();
    }

    private static String read(Path file) throws IOException {
        return new String(Files.readAllBytes(file), StandardCharsets.UTF_8);
    }

    private static String block(String kind, String text) {
        return "\n```" + kind + "\n" + text + "```\n";
    }

    private static String printedByExample() {
        PrintStream before = System.out;
        ByteArrayOutputStream bytes = new ByteArrayOutputStream();
        System.setOut(new PrintStream(bytes, true));
        Example.main(new String[0]);
        System.setOut(before);
        return bytes.toString().replace(System.lineSeparator(), "\n");
    }

    private static void tables(String readme) throws IOException {
        int tests = 0;
        try (DirectoryStream<Path> files = Files.newDirectoryStream(TESTS, "*Test.java")) {
            for (Path file : files) {
                String name = file.getFileName().toString().replace(".java", "");
                Check.holds(name, readme.contains("\n| " + name + " |"));
                tests++;
            }
        }
        int rows = readme.split("\n\\| [A-Za-z]+Test \\|", -1).length - 1;
        Check.due("rows, one for each test", rows, tests);
    }

    private static void calls(String readme) {
        for (java.lang.reflect.Method m : DogTrials.class.getDeclaredMethods()) {
            if (java.lang.reflect.Modifier.isPublic(m.getModifiers())) {
                Check.holds(m.getName(), readme.contains("`" + m.getName() + "("));
            }
        }
    }
}
