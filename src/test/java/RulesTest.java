import java.io.IOException;
import java.lang.management.ManagementFactory;
import java.nio.file.Files;
import java.nio.file.Path;
import java.util.List;
import java.util.regex.Matcher;
import java.util.regex.Pattern;

/** Rules of LANGUAGE.md that can be read off the text of the program, and the room that its calls take. */
public final class RulesTest {
    private static final Path SOURCE = Path.of("src/main/java/WordWright.java");
    private static final String[] NOT_THERE = {"->", "::", "\\btry\\b", "\\bcatch\\b", "\\bfinally\\b", "\\bsynchronized\\b",
        "\\bassert\\b", "\\bpackage\\b", "\\bvar\\b", "\\byield\\b", "\\bprotected\\b", "\\bvolatile\\b", "static \\{",
        "hashCode", "toString", "Thread", "Object\\b", "Random", "Exact\\(", "\\bfloat\\b", "java\\.(?!util\\.Arrays;)"};
    private static final String LIBRARY = "\\b(Arrays|Integer|Long|Math|System|String|List|ArrayList)\\.(\\w+)";
    private static final List<String> USED = List.of("Arrays.fill", "Integer.numberOfLeadingZeros",
        "Integer.numberOfTrailingZeros", "Math.max", "Math.min", "System.arraycopy");
    private static final int MOST_LINES = 60;

    public static void main(String[] args) throws IOException {
        List<String> lines = Files.readAllLines(SOURCE);
        StringBuilder code = new StringBuilder();
        for (String line : lines) {
            String text = line.strip();
            if (!text.startsWith("//") && !text.startsWith("*") && !text.startsWith("/*")) {
                code.append(line).append('\n');
            }
        }
        for (String pattern : NOT_THERE) {
            Check.isTrue(!Pattern.compile(pattern).matcher(code).find(), "the program is without " + pattern);
        }
        Matcher calls = Pattern.compile(LIBRARY).matcher(code);
        while (calls.find()) {
            String call = calls.group();
            Check.isTrue(USED.contains(call), call + " is of the library that it may use");
        }
        checkThrows(code.toString());
        checkLengths(lines);
        checkRoom();
        Check.end("RulesTest");
    }

    private static void checkThrows(String code) {
        Matcher thrown = Pattern.compile("throw (?!new (IllegalArgument|IllegalState|IndexOutOfBounds|Arithmetic)"
            + "Exception\\(\"[^\"]+\"\\);)").matcher(code);
        Check.isTrue(!thrown.find(), "each throw is of an exception of the document, with a written text");
        int inside = code.indexOf("private static final class");
        Check.isTrue(!code.substring(inside).contains("throw "), "the calls of the face throw, and nothing else");
    }

    /** A method begins where a line ends with a brace behind a parameter list, and ends at a brace as far in. */
    private static void checkLengths(List<String> lines) {
        int start = -1;
        String end = "";
        for (int i = 0; i < lines.size(); i++) {
            String line = lines.get(i);
            Matcher head = Pattern.compile("( {4}| {8})(?! |if|for|while|switch).*\\).*\\{").matcher(line);
            if (start < 0 && head.matches()) {
                start = i;
                end = head.group(1) + "}";
            } else if (start >= 0 && line.equals(end)) {
                int length = i - start + 1;
                Check.isTrue(length <= MOST_LINES, "the method in line " + (start + 1) + " has " + length + " lines");
                start = -1;
            }
            Check.isTrue(line.length() <= 120, "line " + (i + 1) + " has 120 signs at most");
        }
    }

    /** What a constructor makes is used again: the calls themselves make next to nothing. */
    private static void checkRoom() {
        WordWright[] ready = new WordWright[40];
        for (int i = 0; i < ready.length; i++) {
            ready[i] = readyToAsk();
        }
        askAll(readyToAsk());
        com.sun.management.ThreadMXBean bean = (com.sun.management.ThreadMXBean) ManagementFactory.getThreadMXBean();
        long before = bean.getThreadAllocatedBytes(Thread.currentThread().getId());
        for (WordWright x : ready) {
            for (int i = 0; i < 20; i++) {
                askAll(x);
            }
        }
        long bytes = bean.getThreadAllocatedBytes(Thread.currentThread().getId()) - before;
        Check.isTrue(bytes < 100_000, "calls make next to nothing, but " + bytes + " bytes");
    }

    private static WordWright readyToAsk() {
        WordWright x = Check.lettered();
        int word = Check.single(x, "0123");
        x.machine();
        x.arc(0, 0, 0, 0, 1);
        x.arc(0, 0, 0, 1, -1);
        x.finals(0, 3);
        x.schema();
        x.node(-1, 0);
        x.step(0, 0, word, 0);
        x.step(2, 0, 0, 0);
        x.step(3, 0, 0, 0);
        x.step(4, 0, word, 1);
        x.equation();
        return x;
    }

    private static void askAll(WordWright x) {
        x.finals(0, 15 - x.finals(0, 1));
        x.finals(0, 3);
        x.domain(0, 1, 2);
        x.solutionsWith(1, 2);
        for (int kind = 4; kind <= 12; kind++) {
            x.wouldSize(kind, 0, kind > 7 && kind < 11 ? 0 : 1);
        }
        x.several(0, 4);
        x.writes(0, 1024, 0);
        x.breaks(0, 1, 1);
        x.beyond(1, 0);
        x.digest();
    }
}
