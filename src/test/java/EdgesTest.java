import java.util.Arrays;
import java.util.List;

/**
 * Each call of the face with all its arguments at the edges of what is allowed, each with each, is answered (or refused,
 * and then nothing is changed) as by the Oracle: of an object with nothing, with some of each, and with all there may be.
 */
public final class EdgesTest {
    private static final String KINDS = "MIN -1 0 1 2 3 4 5 6 7 8 9 10 11 12 13 14 MAX";
    private static final String THINGS = "MIN -1 0 1 3 4 MACHINES-1 MACHINES LANGUAGES-1 LANGUAGES MAX";
    private static final String LANGUAGES = "MIN -1 0 1 2 LANGUAGES-1 LANGUAGES MAX";
    private static final String MACHINES = "MIN -1 0 MACHINES-1 MACHINES MAX";
    private static final String SCHEMAS = "MIN -1 0 SCHEMAS-1 SCHEMAS MAX";
    private static final String FOUR = "MIN -1 0 3 4 MAX";
    private static final String WORDS = "MIN -1 0 1 2 3 4 7 8 1023 1024 2047 2048 4095 4096 1048575 1048576 2097151 2097152 MAX";
    private static final String[][] CALLS = {
        {"make", KINDS, THINGS, THINGS}, {"wouldSize", KINDS, THINGS, THINGS}, {"ofLanguage", LANGUAGES, "MIN -1 0 5 6 MAX"},
        {"next", LANGUAGES, "MIN -1 0 1 2 3 4 9 10 MAX", FOUR}, {"has", LANGUAGES, WORDS},
        {"howMany", LANGUAGES, "MIN -1 0 1 12 13 MAX"}, {"beyond", LANGUAGES, LANGUAGES}, {"machine"},
        {"arc", MACHINES, "-1 0 3 4", "-1 0 3 4", "-1 0 3 4", "MIN -2 -1 0 3 4"}, {"arc", "0", FOUR, FOUR, FOUR, "0"},
        {"finals", MACHINES, "MIN -1 0 15 16 MAX"}, {"writes", MACHINES, WORDS, "MIN -1 0 1 MAX"},
        {"several", MACHINES, "MIN -1 0 4 5 MAX"}, {"loop", MACHINES, "MIN -1 0 1 2 MAX"},
        {"breaks", MACHINES, LANGUAGES, LANGUAGES}, {"domain", FOUR, LANGUAGES, "MIN -1 0 1 2 3 MAX"}, {"equation"},
        {"symbol", "MIN -1 0 EQUATIONS-1 EQUATIONS MAX", "MIN -1 0 1 2 MAX", "MIN -1 0 3 4 9 10 13 14 MAX"}, {"undo"},
        {"solved", FOUR}, {"solutions"}, {"schema"}, {"beneath", SCHEMAS, FOUR, LANGUAGES},
        {"node", "MIN -2 -1 0 1 NODES-1 NODES MAX", FOUR}, {"misfit", SCHEMAS}, {"least", SCHEMAS, FOUR},
        {"within", SCHEMAS, SCHEMAS},
        {"step", "MIN -1 0 1 2 3 4 5 6 7 MAX", "-1 0 1 2 3", "-1 0 1 2 3 MACHINES-1 MACHINES LANGUAGES-1 LANGUAGES",
            "MIN -1 0 1 10 11 MAX"}, {"step", "0 1 2 3 4 5 6", "MIN 0 MAX", "MIN 0 MAX", "0"}, {"clear"},
        {"span", "MIN -1 0 1 9 10 11 MAX", "MIN -1 0 2 3 MAX", "MIN -1 0 1 2 3 4 MAX"}, {"bad", "MIN -1 0 STEPS-1 STEPS 10 MAX"},
        {"many", "MIN -1 0 1 2 3 4 5 6 7 8 9 10 MAX"}, {"meanSize"}, {"solutionsWith", "MIN -1 0 4 MAX", "MIN -1 0 2 3 MAX"},
        {"digest"}};
    private static final List<String> CHANGING = List.of("make", "machine", "arc", "finals", "domain", "equation", "symbol",
        "undo", "schema", "beneath", "node", "step", "clear");

    // No object has more than 512 calls: there are some 250 in a story, and up to 5 for a comparison.
    private static final int MOST_COMPARISONS = 50;

    private final Story story;
    private final long untouched;
    private WordWright x;
    private Oracle o;
    private int comparisons;

    private EdgesTest(Story story) {
        this.story = story;
        untouched = story.told().digest();
        tell();
    }

    public static void main(String[] args) {
        for (Story story : new Story[] {Story.empty(), Story.begun(), Story.full()}) {
            EdgesTest test = new EdgesTest(story);
            for (String[] call : CALLS) {
                test.callAll(call, 1, call[0]);
            }
        }
        Check.end("EdgesTest");
    }

    private void tell() {
        x = story.told();
        o = story.toldToTheOracle();
        comparisons = 0;
    }

    /** Goes through all choices for the arguments from a place on. */
    private void callAll(String[] call, int place, String text) {
        if (place == call.length) {
            compare(call[0], text);
            return;
        }
        for (String choice : call[place].split(" ")) {
            callAll(call, place + 1, text + " " + choice);
        }
    }

    private void compare(String name, String text) {
        int[] args = Calls.arguments(x, text);
        Object want = Calls.answer(o, name, args);
        Check.due(want, text + " = " + Arrays.toString(args) + ", " + story, () -> Calls.answer(x, name, args));
        if (want instanceof String) {
            Check.due(x, untouched, "digest");
        }
        comparisons++;
        if (comparisons == MOST_COMPARISONS || !(want instanceof String) && CHANGING.contains(name)) {
            tell();
        }
    }
}
