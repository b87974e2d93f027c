import java.math.BigInteger;
import java.util.ArrayList;
import java.util.List;

/** Promise 35: each sentence that names a boundary, for the checksum. */
public final class DigestBoundsTest {
    private static final BigInteger ROUND = BigInteger.ONE.shiftLeft(64);

    private final WordWright x;
    private final List<Long> numbers = new ArrayList<>();

    private DigestBoundsTest(WordWright x) {
        this.x = x;
    }

    public static void main(String[] args) {
        aNewOne();
        wrapsAround();
        withoutANode();
        ofEachMachine();
        changesNothing();
        Check.end("DigestBoundsTest");
    }

    /** d as if it did not wrap around: far beyond 64 bits. */
    private static BigInteger unwrapped(List<Long> numbers) {
        BigInteger d = BigInteger.valueOf(58152);
        for (long v : numbers) {
            d = d.multiply(BigInteger.valueOf(31)).add(BigInteger.valueOf(v));
        }
        return d;
    }

    /** "A number d starts with 58152; for each of the following numbers v, d becomes d * 31 + v" */
    private static void aNewOne() {
        List<Long> numbers = new ArrayList<>();
        long[][] parts = {{2, 0, 0, 0, 0, 0, 0, 0, 0, 0}, {1, 0, 0, 0, -1, 0, 0, 0, 0, 0, 0, 0},
            {1, 1, 1, 1, -1, 15, 16, 1024, 0, 0, 0, 0}, {1, 1, 1, 1}, new long[11 * 3 * 4]};
        for (long[] part : parts) {
            for (long v : part) {
                numbers.add(v);
            }
        }
        Check.due(new WordWright(), unwrapped(numbers).longValue(), "digest");
    }

    /** "which wraps around as a 64-bit integer" */
    private static void wrapsAround() {
        for (Story story : new Story[] {Story.empty(), Story.begun(), Story.full()}) {
            WordWright x = story.told();
            BigInteger d = unwrapped(new DigestBoundsTest(story.told()).asked());
            Check.isTrue(d.bitLength() > 640, "d is beyond 64 bits time after time");
            BigInteger rest = d.mod(ROUND);
            long due = rest.testBit(63) ? rest.subtract(ROUND).longValueExact() : rest.longValueExact();
            Check.due(x, due, "digest");
        }
    }

    /** "then, if there is a NODE, misfit()" */
    private static void withoutANode() {
        WordWright x = new WordWright();
        x.schema();
        x.schema();
        List<Long> without = new DigestBoundsTest(x).asked();
        Check.due(x, unwrapped(without).longValue(), "digest");
        x.node(-1, 3);
        List<Long> with = new DigestBoundsTest(x).asked();
        Check.due(without.size() + 2, "numbers with a NODE", with::size);
        Check.due(x, unwrapped(with).longValue(), "digest");
    }

    /** "several() of 2, loop() of 0 and 1, and writes() of the WORDS 1, 5, 22 and the numbers 0 and 1" */
    private static void ofEachMachine() {
        String[][] machines = {{"0 0 1 0", "1 0 2 0", "1 0 2 1"}, {"0 0 1 0", "1 0 2 0", "2 0 3 0", "2 0 3 1"},
            {"0 1 1 0", "1 2 3 0", "1 2 3 1", "1 3 2 3", "0 1 2 2", "2 2 2 2"}, {"0 1 3 0", "0 1 3 1", "0 1 3 2", "0 0 3 3"}};
        for (int finals = 1; finals <= 15; finals++) {
            Story story = new Story("with MACHINES");
            for (int m = 0; m < machines.length; m++) {
                story.then("machine", "finals " + m + " " + finals);
                for (String arc : machines[m]) {
                    story.then("arc " + m + " " + arc);
                }
            }
            long due = unwrapped(new DigestBoundsTest(story.told()).asked()).longValue();
            Check.due(story.told(), due, "digest");
        }
    }

    private static void changesNothing() {
        for (Story story : new Story[] {Story.empty(), Story.begun(), Story.full()}) {
            WordWright x = story.told();
            x.digest();
            Check.due(story.untouched(), "what can be found out after digest(), " + story, () -> Probe.of(x));
        }
    }

    private void ask(String call) {
        Object answer = Calls.answer(x, call);
        if (answer instanceof Long) {
            numbers.add((Long) answer);
        } else {
            Check.isTrue(false, call + " answered " + answer);
        }
    }

    private List<Long> asked() {
        for (int what = 0; what <= 9; what++) {
            ask("many " + what);
        }
        for (int l = 0; l < x.many(0); l++) {
            for (int what = 0; what <= 5; what++) {
                ask("ofLanguage " + l + " " + what);
            }
            ask("howMany " + l + " 2");
            ask("howMany " + l + " 5");
            for (int i = 0; i < 4 * x.ofLanguage(l, 0); i++) {
                ask("next " + l + " " + i / 4 + " " + i % 4);
            }
        }
        for (int m = 0; m < x.many(1); m++) {
            ask("several " + m + " 2");
            ask("loop " + m + " 0");
            ask("loop " + m + " 1");
            for (int i = 0; i < 6; i++) {
                ask("writes " + m + " " + new int[] {1, 5, 22}[i / 2] + " " + i % 2);
            }
        }
        for (int v = 0; v < 4; v++) {
            ask("solved " + v);
        }
        askSchemasAndProgram();
        return numbers;
    }

    private void askSchemasAndProgram() {
        for (int s = 0; s < x.many(5); s++) {
            for (int letter = 0; letter < 4; letter++) {
                ask("least " + s + " " + letter);
            }
            if (x.many(6) > 0) {
                ask("misfit " + s);
            }
            for (int other = 0; other < x.many(5); other++) {
                ask("within " + s + " " + other);
            }
        }
        for (int i = 0; i < 11 * 3 * 4; i++) {
            ask("span " + i / 12 + " " + i / 4 % 3 + " " + i % 4);
        }
        for (int step = 0; step < x.many(7); step++) {
            ask("bad " + step);
        }
    }
}
