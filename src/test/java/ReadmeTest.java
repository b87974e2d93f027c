import java.io.IOException;
import java.net.URL;
import java.net.URLClassLoader;
import java.nio.file.Files;
import java.nio.file.Path;
import java.util.ArrayList;
import java.util.List;
import java.util.regex.Matcher;
import java.util.regex.Pattern;

/** README.md: each call that it shows answers, or throws, what stands behind it; each test of the project is named there. */
public final class ReadmeTest {
    private static final Path README = Path.of("README.md");
    private static final String NAME = "ReadmeCalls";
    // A call, what keeps its answer, and what stands behind it: an answer, or what it throws.
    private static final Pattern CALL = Pattern.compile("((?:int )?(\\w+) = )?(.+); +// (throws \\w+|[-\\w.]+)(:.*)?");

    public static void main(String[] args) throws Exception {
        List<String> lines = Files.readAllLines(README);
        checkCalls(lines);
        checkCommands(lines);
        Check.end("ReadmeTest");
    }

    private static void checkCalls(List<String> lines) throws Exception {
        StringBuilder body = new StringBuilder();
        int calls = 0;
        for (String line : block(lines, "```java")) {
            Matcher call = CALL.matcher(line);
            if (call.matches()) {
                calls++;
                body.append(checked(call));
            } else {
                body.append(line).append('\n');
            }
        }
        Check.isTrue(calls > 50, "README.md shows calls, but " + calls);
        for (Object[] row : rows(body.toString())) {
            Check.due(row[1], row[0] + " in README.md", () -> row[2]);
        }
    }

    /** The call, which puts into a row its text, what is due, and what it answers or throws. */
    private static String checked(Matcher call) {
        String text = call.group(3);
        String want = call.group(4);
        String kept = call.group(1) == null ? "" : call.group(1) + text + ";\n";
        String answer = call.group(1) == null ? text : call.group(2);
        if (!want.startsWith("throws")) {
            return kept + "rows.add(new Object[] {\"" + text + "\", " + want + ", " + answer + "});\n";
        }
        String row = "rows.add(new Object[] {\"" + text + "\", \"" + want + "\", ";
        return "try {\n" + text + ";\n" + row + "\"nothing\"});\n} catch (RuntimeException thrown) {\n"
            + row + "\"throws \" + thrown.getClass().getSimpleName()});\n}\n";
    }

    /** Compiles the calls, and goes through them. */
    @SuppressWarnings("unchecked")
    private static List<Object[]> rows(String body) throws Exception {
        Path directory = Files.createTempDirectory("readme");
        Path file = directory.resolve(NAME + ".java");
        Files.writeString(file, "import java.util.*;\npublic final class " + NAME + " {\npublic static List<Object[]> go() {\n"
            + "List<Object[]> rows = new ArrayList<>();\n" + body + "return rows;\n}\n}\n");
        int code = new ProcessBuilder("javac", "-nowarn", "-cp", System.getProperty("java.class.path"), "-d",
            directory.toString(), file.toString()).inheritIO().start().waitFor();
        Check.due(0, "to compile the calls of README.md", () -> code);
        List<Object[]> rows = List.of();
        if (code == 0) {
            try (URLClassLoader loader = new URLClassLoader(new URL[] {directory.toUri().toURL()})) {
                rows = (List<Object[]>) loader.loadClass(NAME).getMethod("go").invoke(null);
            }
        }
        Files.deleteIfExists(directory.resolve(NAME + ".class"));
        Files.delete(file);
        Files.delete(directory);
        return rows;
    }

    /** Each test of the project stands in the table of README.md, and its script is named. */
    private static void checkCommands(List<String> lines) throws IOException {
        String text = String.join("\n", lines);
        Check.isTrue(block(lines, "```sh").contains(".ci/run"), "README.md says how to run all tests");
        try (var files = Files.list(Path.of("src/test/java"))) {
            for (Path file : (Iterable<Path>) files.sorted()::iterator) {
                String name = file.getFileName().toString().replace(".java", "");
                Check.isTrue(!name.endsWith("Test") || text.contains("| " + name + " |"), "README.md tells of " + name);
            }
        }
    }

    /** The lines in the blocks that begin so. */
    private static List<String> block(List<String> lines, String begin) {
        List<String> found = new ArrayList<>();
        boolean isIn = false;
        for (String line : lines) {
            if (line.startsWith("```")) {
                isIn = line.equals(begin);
            } else if (isIn) {
                found.add(line);
            }
        }
        return found;
    }
}
