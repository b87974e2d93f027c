import java.util.ArrayDeque;
import java.util.Arrays;
import java.util.Queue;
import java.util.Random;

/** Random runs of calls, each answered by WordWright and by the Oracle alike (all promises). */
public final class OracleTest {
    private static final String[] LANGUAGES = {"make", "make", "make", "make", "make", "make", "ofLanguage", "next",
        "has", "howMany", "beyond", "beyond", "wouldSize", "wouldSize", "meanSize", "many"};
    private static final String[] MACHINES = {"machine", "arc", "arc", "arc", "arc", "arc", "arc", "finals", "finals",
        "writes", "writes", "several", "loop", "loop", "breaks", "breaks", "make", "make", "make", "wouldSize", "many"};
    private static final String[] EQUATIONS = {"make", "domain", "equation", "symbol", "symbol", "symbol", "symbol",
        "symbol", "symbol", "undo", "solved", "solutions", "solutionsWith", "many"};
    private static final String[] SCHEMAS = {"make", "make", "schema", "beneath", "beneath", "beneath", "node", "node",
        "node", "misfit", "least", "least", "within", "within", "many"};
    private static final String[] PROGRAMS = {"make", "make", "step", "step", "step", "step", "step", "step", "step",
        "step", "step", "step", "clear", "span", "span", "bad", "bad", "many", "many", "machine", "arc", "arc", "finals"};
    private static final int[] SORTS = {0, 0, 1, 2, 2, 2, 2, 3, 3, 4, 4, 4, 4, 4, 4, 5, 6, 6, 6};
    private static final int[] KINDS = {4, 4, 4, 4, 5, 5, 5, 6, 7, 8, 9, 10, 11, 11, 11, 12, 12, 12, 13};
    private static final int[][] START = {{2, 0, 0}, {2, 1, 0}, {2, 2, 0}, {2, 3, 0}, {1, 0, 0}, {4, 2, 3}, {5, 2, 3},
        {7, 1, 2}};
    private static final String[][] PARTS = {LANGUAGES, MACHINES, EQUATIONS, SCHEMAS, PROGRAMS};

    private final Random random;
    private final WordWright x = new WordWright();
    private final Oracle o = new Oracle();
    private final StringBuilder history = new StringBuilder();
    private final Queue<String> pending = new ArrayDeque<>();
    // How many STEPS of a PROGRAM that goes round are still to come, and how many it has.
    private int roundLeft;
    private int roundSize;
    private String name;
    private int[] args;
    // Without LANGUAGES and MACHINES to begin with, and with each argument as likely as another.
    private boolean isPlain;
    // So many LETTERS, and STATES of MACHINES, are there most often, so that more comes together.
    private int alphabet;
    private int stateCount;

    private OracleTest(long seed) {
        random = new Random(seed);
    }

    public static void main(String[] args) {
        int runs = args.length > 0 ? Integer.parseInt(args[0]) : 1500;
        long first = args.length > 1 ? Long.parseLong(args[1]) : 1;
        for (long seed = first; seed < first + runs; seed++) {
            if (!new OracleTest(seed).run(seed)) {
                Check.isTrue(false, "the run " + seed);
                break;
            }
            Check.isTrue(true, "the run " + seed);
        }
        Check.end("OracleTest");
    }

    private boolean run(long seed) {
        int calls = 30 + random.nextInt(220);
        int part = random.nextInt(PARTS.length + 1);
        isPlain = random.nextInt(8) == 0;
        alphabet = isPlain ? 4 : 1 + random.nextInt(4);
        stateCount = isPlain ? 4 : 1 + random.nextInt(4);
        for (int i = 0; !isPlain && i < START.length; i++) {
            pending.add("make");
        }
        for (int i = 0; i < calls; i++) {
            if (!pending.isEmpty() || i == calls - 1) {
                name = pending.isEmpty() ? "digest" : pending.remove();
                args = name.equals("make") && i < START.length ? START[i] : argsOf(name);
            } else {
                int now = part < PARTS.length && random.nextInt(4) > 0 ? part : random.nextInt(PARTS.length);
                name = random.nextInt(60) == 0 ? "digest" : PARTS[now][random.nextInt(PARTS[now].length)];
                args = argsOf(name);
                if (!isPlain && random.nextInt(12) == 0) {
                    queue(now);
                }
            }
            Object got = Calls.answer(x, name, args);
            Object want = Calls.answer(o, name, args);
            history.append("\n  ").append(name).append(Arrays.toString(args)).append(" = ").append(got);
            if (!got.equals(want)) {
                System.out.println("run " + seed + ", due is " + want + " at last:" + history);
                return false;
            }
        }
        return true;
    }

    /** Calls that belong together come next, one behind the other. */
    private void queue(int part) {
        String[][] calls = {{"make"}, {"machine", "arc", "arc", "arc", "arc", "finals"}, {"equation", "symbol", "symbol"},
            {"schema", "beneath", "beneath", "node", "node", "node"}, {"clear", "step", "step", "step", "step", "step"}};
        for (String call : calls[part]) {
            pending.add(call);
        }
        if (part == 4 && random.nextBoolean()) {
            roundSize = 5;
            roundLeft = 5;
        }
        String again = calls[part][calls[part].length / 2];
        for (int more = random.nextInt(6); more > 0 && part > 0; more--) {
            pending.add(again);
            roundSize += roundLeft > 0 ? 1 : 0;
            roundLeft += roundLeft > 0 ? 1 : 0;
        }
        String[] asked = {"digest", "loop", "solutions", "within", "many"};
        pending.add(asked[part]);
    }

    private int up(int bound) {
        return random.nextInt(30) == 0 ? random.nextInt(3) == 0 ? -1 : bound : random.nextInt(Math.max(1, bound));
    }

    private int language() {
        return up(o.tongues.size());
    }

    /** Most often one that is neither NONE at all nor ALL, and rather one with several STATES. */
    private int recentLanguage() {
        int size = o.tongues.size();
        int least = random.nextInt(5);
        for (int tries = 0; tries < 5 && !isPlain; tries++) {
            int language = random.nextInt(size);
            if (o.tongues.get(language).size() > least) {
                return language;
            }
        }
        return random.nextInt(3) == 0 ? language() : size - 1 - random.nextInt(Math.min(size, 6));
    }

    private int machine() {
        return up(o.devices.size());
    }

    private int schema() {
        return up(o.schemas.size());
    }

    private int word(int most) {
        int length = random.nextInt(most + 1);
        int word = 1;
        for (int i = 0; i < length; i++) {
            word = 4 * word + letter();
        }
        return random.nextInt(25) == 0 ? random.nextInt(1 << 22) - 5 : word;
    }

    private int letter() {
        return random.nextInt(30) == 0 ? random.nextInt(6) - 1 & 3 : random.nextInt(alphabet);
    }

    private int anyLetter() {
        return random.nextInt(4) == 0 ? up(4) : letter();
    }

    private int state() {
        return random.nextInt(10) == 0 ? up(4) : random.nextInt(stateCount);
    }

    private int[] arcArgs() {
        return new int[] {machine(), state(), anyLetter(), state(), random.nextInt(4) == 0 ? -1 : anyLetter()};
    }

    private int[] argsOf(String call) {
        return switch (call) {
            case "make", "wouldSize" -> kind();
            case "ofLanguage" -> new int[] {language(), up(6)};
            case "next" -> new int[] {language(), random.nextInt(4), up(4)};
            case "has" -> new int[] {language(), word(10)};
            case "howMany" -> new int[] {language(), up(13)};
            case "beyond" -> new int[] {recentLanguage(), recentLanguage()};
            case "arc" -> arcArgs();
            case "finals" -> new int[] {machine(), isPlain ? up(16) : up(1 << stateCount)};
            case "writes" -> new int[] {machine(), word(5), random.nextInt(20) == 0 ? -1 : random.nextInt(4)};
            case "several" -> new int[] {machine(), up(5)};
            case "loop" -> new int[] {machine(), up(2)};
            case "breaks" -> new int[] {machine(), recentLanguage(), recentLanguage()};
            case "domain" -> new int[] {up(4), language(), random.nextInt(3) == 0 ? up(3) : 1};
            case "symbol" -> new int[] {up(o.equations.size()), up(2), symbolSign()};
            case "solved" -> new int[] {up(4)};
            case "solutionsWith" -> new int[] {up(4), random.nextInt(3) == 0 ? up(3) : 1};
            case "beneath" -> new int[] {schema(), anyLetter(), recentLanguage()};
            case "node" -> new int[] {random.nextInt(20) == 0 ? -1 : up(o.nodes.size()), anyLetter()};
            case "misfit" -> new int[] {schema()};
            case "least" -> new int[] {schema(), up(4)};
            case "within" -> new int[] {schema(), schema()};
            case "step" -> stepArgs();
            case "span" -> new int[] {up(11), up(3), up(4)};
            case "bad" -> new int[] {up(o.steps.size())};
            case "many" -> new int[] {up(10)};
            default -> new int[0];
        };
    }

    private int symbolSign() {
        return random.nextInt(20) == 0 ? random.nextInt(20) - 2 : random.nextInt(3) == 0 ? anyLetter() : 10 + up(4);
    }

    private int[] kind() {
        int kind = random.nextInt(40) == 0 ? random.nextInt(20) - 3 : isPlain ? random.nextInt(14)
                : KINDS[random.nextInt(KINDS.length)];
        boolean wrong = random.nextInt(25) == 0;
        return switch (kind) {
            case 2 -> new int[] {kind, up(4), wrong ? 1 : 0};
            case 4, 5, 6, 7 -> new int[] {kind, recentLanguage(), recentLanguage()};
            case 8, 9, 10 -> new int[] {kind, recentLanguage(), wrong ? 1 : 0};
            case 11, 12 -> new int[] {kind, machine(), recentLanguage()};
            case 13 -> new int[] {kind, machine(), wrong ? 1 : 0};
            default -> new int[] {kind, wrong ? 1 : 0, random.nextInt(40) == 0 ? 1 : 0};
        };
    }

    /** A STEP of a PROGRAM that makes its STRINGS longer in the middle, and goes back at its end. */
    private int[] roundStep() {
        int done = roundSize - roundLeft;
        roundLeft--;
        if (done < 2) {
            return new int[] {0, done, recentLanguage(), 0};
        }
        if (roundLeft < 2) {
            return new int[] {4, random.nextInt(3), recentLanguage(), random.nextInt(3)};
        }
        int sort = new int[] {1, 2, 2, 2, 2, 3, 4, 6}[random.nextInt(8)];
        int b = sort < 3 ? random.nextInt(3) : sort == 3 ? machine() : recentLanguage();
        return new int[] {sort, random.nextInt(3), b, sort == 4 ? random.nextInt(roundSize) : 0};
    }

    private int[] stepArgs() {
        if (roundLeft > 0) {
            return roundStep();
        }
        int sort = random.nextInt(40) == 0 ? random.nextInt(12) - 3 : SORTS[random.nextInt(SORTS.length)];
        int zero = random.nextInt(40) == 0 ? 1 : 0;
        return switch (sort) {
            case 0, 6 -> new int[] {sort, up(3), recentLanguage(), zero};
            case 1, 2 -> new int[] {sort, up(3), up(3), zero};
            case 3 -> new int[] {sort, up(3), machine(), zero};
            case 4 -> new int[] {sort, up(3), recentLanguage(), target()};
            default -> new int[] {sort, zero, 0, target()};
        };
    }

    private int target() {
        return random.nextInt(3) == 0 ? up(11) : random.nextInt(Math.min(11, o.steps.size() + 1));
    }
}
