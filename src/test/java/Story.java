import java.util.ArrayList;
import java.util.List;

/** Calls one behind the other, that can be told again on a new object each time: so that two objects can be compared. */
final class Story {
    private static final String[] BEGUN = {"make 2 0 0", "make 2 1 0", "make 4 2 3", "make 8 4 0", "machine", "machine",
        "arc 0 0 0 0 1", "arc 0 0 1 1 -1", "arc 0 1 1 0 0", "arc 1 0 0 0 0", "finals 0 3", "finals 1 1", "domain 2 5 2",
        "equation", "symbol 0 0 10", "symbol 0 1 12", "equation", "symbol 1 1 13", "schema", "beneath 0 0 5",
        "beneath 0 1 1", "schema", "beneath 1 1 5", "node -1 0", "node 0 0", "node 0 1", "step 0 0 5 0", "step 2 0 1 0",
        "step 6 0 4 0"};
    private static final String[] PROGRAM = {"step 0 0 39 0", "step 4 0 7 9", "step 2 1 0 0", "step 3 1 5 0",
        "step 6 1 2 0", "step 1 2 1 0", "step 0 0 23 0", "step 4 2 24 2", "step 5 0 0 1", "step 6 0 3 0"};

    private final String name;
    private final List<String> calls = new ArrayList<>();
    private String untouched;

    Story(String name) {
        this.name = name;
    }

    Story then(String... more) {
        calls.addAll(List.of(more));
        untouched = null;
        return this;
    }

    /** All that can be found out behind it. */
    String untouched() {
        if (untouched == null) {
            untouched = Probe.of(this::told);
        }
        return untouched;
    }

    WordWright told() {
        WordWright x = new WordWright();
        for (String call : calls) {
            Object answer = Calls.answer(x, call);
            if (String.valueOf(answer).startsWith("throws")) {
                throw new IllegalStateException(name + ": " + call + " " + answer);
            }
        }
        return x;
    }

    /** Objects behind the story, for calls that change nothing. */
    Fresh fresh() {
        int count = 0;
        for (String call : calls) {
            count += Calls.count(call);
        }
        return new Fresh(this::told, count);
    }

    Oracle toldToTheOracle() {
        WordWright x = new WordWright();
        Oracle o = new Oracle();
        for (String call : calls) {
            int[] args = Calls.arguments(x, call);
            String called = call.split(" ")[0];
            Calls.answer(x, called, args);
            Calls.answer(o, called, args);
        }
        return o;
    }

    @Override
    public String toString() {
        return name;
    }

    /** Just a new object. */
    static Story empty() {
        return new Story("with nothing");
    }

    /** Some of all there is, and room for more of each. */
    static Story begun() {
        return new Story("with some of each").then(BEGUN);
    }

    /** As many of all as there may be. */
    static Story full() {
        Story story = new Story("with all that there may be");
        fillLanguages(story);
        fillMachines(story);
        fillEquations(story);
        fillSchemas(story);
        return story.then(PROGRAM);
    }

    /** The LETTERS as 2 to 5, the BLANK one as 6, all WORDS of two LETTERS, STARS of these, and one OR. */
    private static void fillLanguages(Story story) {
        for (int letter = 0; letter < 4; letter++) {
            story.then("make 2 " + letter + " 0");
        }
        story.then("make 1 0 0");
        for (int i = 0; i < 16; i++) {
            story.then("make 4 " + (2 + i / 4) + " " + (2 + i % 4));
        }
        // The STARS of 00, 11, 22 and 33 are LANGUAGES of their own, too: there are sixteen.
        for (int i = 0; i < 16; i++) {
            story.then("make 8 " + (7 + i) + " 0");
        }
        story.then("make 5 7 8");
    }

    private static void fillMachines(Story story) {
        for (int m = 0; m < 6; m++) {
            story.then("machine");
            for (int i = 0; i < 10; i++) {
                int out = (i + m) % 5 - 1;
                story.then("arc " + m + " " + i % 4 + " " + (i + m) % 4 + " " + (i * 3 + m) % 4 + " " + out);
            }
            story.then("finals " + m + " " + (m + 9));
        }
    }

    private static void fillEquations(Story story) {
        for (int v = 0; v < 4; v++) {
            story.then("domain " + v + " " + (v == 0 ? 39 : 1) + " 2");
        }
        for (int e = 0; e < 4; e++) {
            story.then("equation");
            for (int i = 0; i < 6; i++) {
                int symbol = 10 + (i + e) % 4;
                story.then("symbol " + e + " 0 " + symbol, "symbol " + e + " 1 " + symbol);
            }
        }
    }

    /** Ten NODES beneath the NODE 0, ten beneath 1, and nine beneath 2. */
    private static void fillSchemas(Story story) {
        for (int s = 0; s < 4; s++) {
            story.then("schema");
            for (int letter = 0; letter < 4; letter++) {
                story.then("beneath " + s + " " + letter + " " + (letter < s ? 23 + 5 * letter : 6));
            }
        }
        story.then("node -1 0");
        for (int i = 0; i < 29; i++) {
            story.then("node " + i / 10 + " " + i % 4);
        }
    }
}
