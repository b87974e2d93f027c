import java.math.BigInteger;
import java.util.ArrayList;
import java.util.List;

/** Promise 35: each sentence that names a boundary, for the checksum. */
public final class DigestBoundsTest {
    private static final BigInteger ROUND = BigInteger.ONE.shiftLeft(64);

    public static void main(String[] args) {
        aNewOne();
        wrapsAround();
        withoutANode();
        ofEachMachine();
        changesNothing();
        theLastCallOfAll();
        Check.end("DigestBoundsTest");
    }

    /** d as if it did not wrap around: far beyond 64 bits. */
    private static BigInteger unwrapped(List<Long> numbers) {
        BigInteger d = BigInteger.valueOf(58152);
        for (long v : numbers) {
            d = d.multiply(BigInteger.valueOf(31)).add(BigInteger.valueOf(v));
        }
        return d;
    }

    /** "A number d starts with 58152; for each of the following numbers v, d becomes d * 31 + v" */
    private static void aNewOne() {
        List<Long> numbers = new ArrayList<>();
        long[][] parts = {{2, 0, 0, 0, 0, 0, 0, 0, 0, 0}, {1, 0, 0, 0, -1, 0, 0, 0, 0, 0, 0, 0},
            {1, 1, 1, 1, -1, 15, 16, 1024, 0, 0, 0, 0}, {1, 1, 1, 1}, new long[11 * 3 * 4]};
        for (long[] part : parts) {
            for (long v : part) {
                numbers.add(v);
            }
        }
        Check.due(numbers, "the numbers of a new one", () -> Numbers.of(Story.empty()));
        Check.due(new WordWright(), unwrapped(numbers).longValue(), "digest");
    }

    /** "which wraps around as a 64-bit integer" */
    private static void wrapsAround() {
        for (Story story : new Story[] {Story.empty(), Story.begun(), Story.full()}) {
            BigInteger d = unwrapped(Numbers.of(story));
            Check.isTrue(d.bitLength() > 640, "d is beyond 64 bits time after time");
            BigInteger rest = d.mod(ROUND);
            long due = rest.testBit(63) ? rest.subtract(ROUND).longValueExact() : rest.longValueExact();
            Check.due(story.told(), due, "digest");
        }
    }

    /** "then, if there is a NODE, misfit()" */
    private static void withoutANode() {
        Story story = new Story("with SCHEMAS").then("schema", "schema");
        List<Long> without = Numbers.of(story);
        Check.due(story.told(), unwrapped(without).longValue(), "digest");
        List<Long> with = Numbers.of(story.then("node -1 3"));
        Check.due(without.size() + 2, "numbers with a NODE", with::size);
        Check.due(story.told(), unwrapped(with).longValue(), "digest");
    }

    /** "several() of 2, loop() of 0 and 1, and writes() of the WORDS 1, 5, 22 and the numbers 0 and 1" */
    private static void ofEachMachine() {
        String[][] machines = {{"0 0 1 0", "1 0 2 0", "1 0 2 1"}, {"0 0 1 0", "1 0 2 0", "2 0 3 0", "2 0 3 1"},
            {"0 1 1 0", "1 2 3 0", "1 2 3 1", "1 3 2 3", "0 1 2 2", "2 2 2 2"}, {"0 1 3 0", "0 1 3 1", "0 1 3 2", "0 0 3 3"}};
        for (int finals = 1; finals <= 15; finals++) {
            Story story = new Story("with MACHINES");
            for (int m = 0; m < machines.length; m++) {
                story.then("machine", "finals " + m + " " + finals);
                for (String arc : machines[m]) {
                    story.then("arc " + m + " " + arc);
                }
            }
            Check.due(story.told(), unwrapped(Numbers.of(story)).longValue(), "digest");
        }
    }

    /** "An object is used for at most 512 calls after it has been made": the 512th is answered as the first one. */
    private static void theLastCallOfAll() {
        WordWright x = new WordWright();
        long due = x.digest();
        for (int call = 2; call < 512; call++) {
            Check.due(x, due, "digest");
        }
        Check.due(x, due, "digest");
        // So many calls that change something, and are undone again.
        WordWright y = new WordWright();
        for (int call = 0; call < 510; call += 6) {
            y.equation();
            y.symbol(0, 0, 3);
            Check.due(y, 0, "solutions");
            y.undo();
            y.step(5, 0, 0, 0);
            y.clear();
        }
        Check.due(y, due, "digest");
    }

    private static void changesNothing() {
        for (Story story : new Story[] {Story.empty(), Story.begun(), Story.full()}) {
            Check.due(story.untouched(), "what can be found out after digest(), " + story, () -> Probe.of(() -> {
                WordWright x = story.told();
                x.digest();
                return x;
            }));
        }
    }
}
