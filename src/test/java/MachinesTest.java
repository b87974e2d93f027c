/** Promises 8 to 14: MACHINES. */
public final class MachinesTest {
    private static final Class<IllegalArgumentException> ARGUMENT = IllegalArgumentException.class;
    private static final Class<IllegalStateException> STATE = IllegalStateException.class;
    private static final Class<IndexOutOfBoundsException> INDEX = IndexOutOfBoundsException.class;
    private static final Class<ArithmeticException> ARITHMETIC = ArithmeticException.class;

    public static void main(String[] args) {
        promise8Machine();
        promise9Arc();
        promise10Finals();
        promise11Writes();
        promise12Several();
        promise13Loop();
        promise14Breaks();
        Check.end("MachinesTest");
    }

    private static void promise8Machine() {
        WordWright x = new WordWright();
        for (int i = 0; i < 6; i++) {
            int number = i;
            Check.due(number, "machine()", x::machine);
            Check.due(0, "finals of a new one", () -> x.finals(number, 0));
        }
        Check.due(6, "many(1)", () -> x.many(1));
        Check.due(0, "many(2)", () -> x.many(2));
        Check.refused(x, STATE, "machine() with 6", x::machine);
        Check.due(0, "arc of the last one", () -> x.arc(5, 3, 3, 3, -1));
    }

    private static void promise9Arc() {
        WordWright x = new WordWright();
        x.machine();
        x.machine();
        for (int i = 0; i < 9; i++) {
            int number = i;
            Check.due(number, "arc, also the same again", () -> x.arc(0, 0, 1, 0, 2));
        }
        int[][] wrong = {{4, 0, 0, 0}, {-1, 0, 0, 0}, {0, 4, 0, 0}, {0, -1, 0, 0}, {0, 0, 4, 0}, {0, 0, -1, 0}, {0, 0, 0, 4},
            {0, 0, 0, -2}, {Integer.MAX_VALUE, 0, 0, 0}, {0, Integer.MIN_VALUE, 0, 0}};
        for (int[] w : wrong) {
            String rest = w[0] + ", " + w[1] + ", " + w[2] + ", " + w[3] + ")";
            Check.refused(x, ARGUMENT, "arc(0, " + rest, () -> x.arc(0, w[0], w[1], w[2], w[3]));
            Check.refused(x, INDEX, "arc(2, " + rest, () -> x.arc(2, w[0], w[1], w[2], w[3]));
        }
        Check.due(9, "the last arc", () -> x.arc(0, 3, 3, 3, -1));
        Check.refused(x, STATE, "arc with 10", () -> x.arc(0, 0, 0, 0, 0));
        Check.refused(x, ARGUMENT, "wrong arc with 10", () -> x.arc(0, 0, 0, 0, 5));
        Check.refused(x, INDEX, "arc(-1, ..)", () -> x.arc(-1, 0, 0, 0, 0));
        Check.due(0, "arc of another", () -> x.arc(1, 0, 0, 0, 0));
        Check.due(11, "many(2)", () -> x.many(2));
    }

    private static void promise10Finals() {
        WordWright x = new WordWright();
        x.machine();
        Check.due(0, "finals", () -> x.finals(0, 15));
        Check.due(15, "finals", () -> x.finals(0, 4));
        Check.refused(x, ARGUMENT, "finals(0, 16)", () -> x.finals(0, 16));
        Check.refused(x, ARGUMENT, "finals(0, -1)", () -> x.finals(0, -1));
        Check.refused(x, INDEX, "finals(1, 16)", () -> x.finals(1, 16));
        Check.refused(x, INDEX, "finals(-1, 0)", () -> x.finals(-1, 0));
        Check.due(4, "finals, as they were", () -> x.finals(0, 0));
    }

    private static void writesJust(WordWright x, int machine, String word, String... want) {
        for (int k = 0; k <= want.length; k++) {
            int number = k;
            int due = k < want.length ? Check.word(want[k]) : 0;
            Check.due(due, "writes(" + word + ", " + k + ")", () -> x.writes(machine, Check.word(word), number));
        }
    }

    private static void promise11Writes() {
        WordWright x = new WordWright();
        x.machine();
        writesJust(x, 0, "");
        x.finals(0, 1);
        writesJust(x, 0, "", "");
        writesJust(x, 0, "0");
        // 0 may be written as 1, twice in two ways, or not; and 2 leads to the STATE 1 and back.
        x.arc(0, 0, 0, 0, 1);
        x.arc(0, 0, 0, 0, 1);
        x.arc(0, 0, 0, 0, -1);
        x.arc(0, 0, 2, 1, 3);
        x.arc(0, 1, 2, 0, 0);
        writesJust(x, 0, "0", "", "1");
        writesJust(x, 0, "00", "", "1", "11");
        writesJust(x, 0, "00000", "", "1", "11", "111", "1111", "11111");
        writesJust(x, 0, "2");
        writesJust(x, 0, "22", "30");
        writesJust(x, 0, "0220", "30", "130", "301", "1301");
        writesJust(x, 0, "1");
        x.finals(0, 3);
        writesJust(x, 0, "2", "3");
        x.arc(0, 0, 0, 1, 0);
        writesJust(x, 0, "0", "", "0", "1");
        Check.due(0, "writes of the largest k", () -> x.writes(0, 4, Integer.MAX_VALUE));
        Check.refused(x, ARGUMENT, "writes of 6 LETTERS", () -> x.writes(0, 4096, 0));
        Check.refused(x, ARGUMENT, "writes with k = -1", () -> x.writes(0, 1, -1));
        Check.refused(x, ARGUMENT, "writes with the least k", () -> x.writes(0, 1, Integer.MIN_VALUE));
        int[] wrong = {0, 2, 3, 8, 15, -1, 32, Integer.MIN_VALUE, Integer.MAX_VALUE, 1 << 30};
        for (int w : wrong) {
            Check.refused(x, ARGUMENT, "writes of " + w, () -> x.writes(0, w, 0));
        }
        Check.refused(x, INDEX, "writes(1, 0, -1)", () -> x.writes(1, 0, -1));
        Check.refused(x, INDEX, "writes(-1, 1, 0)", () -> x.writes(-1, 1, 0));
        promise11AllArcs();
    }

    private static void promise11AllArcs() {
        WordWright x = new WordWright();
        x.machine();
        for (int out = -1; out < 4; out++) {
            x.arc(0, 0, 3, 0, out);
        }
        x.finals(0, 1);
        // Each WORD up to 5 LETTERS is written for 33333: 1 + 4 + 16 + 64 + 256 + 1024.
        Check.due(Check.word("33333"), "writes the last", () -> x.writes(0, Check.word("33333"), 1364));
        Check.due(Check.word("00000"), "writes the first long one", () -> x.writes(0, Check.word("33333"), 341));
        Check.due(0, "writes no more", () -> x.writes(0, Check.word("33333"), 1365));
    }

    private static void promise12Several() {
        WordWright x = new WordWright();
        x.machine();
        x.finals(0, 8);
        x.arc(0, 0, 1, 1, 0);
        x.arc(0, 1, 2, 2, 0);
        x.arc(0, 2, 0, 1, -1);
        x.arc(0, 1, 2, 3, 0);
        x.arc(0, 2, 2, 3, 3);
        Check.due(0, "several(0, 4)", () -> x.several(0, 4));
        x.arc(0, 1, 0, 1, -1);
        x.arc(0, 1, 3, 3, -1);
        x.arc(0, 1, 3, 3, 2);
        Check.due(0, "several(0, 1)", () -> x.several(0, 1));
        Check.due(Check.word("13"), "several(0, 2)", () -> x.several(0, 2));
        Check.due(Check.word("13"), "several(0, 4)", () -> x.several(0, 4));
        Check.due(0, "several(0, 0)", () -> x.several(0, 0));
        promise12Long();
        Check.refused(x, ARGUMENT, "several(0, 5)", () -> x.several(0, 5));
        Check.refused(x, ARGUMENT, "several(0, -1)", () -> x.several(0, -1));
        Check.refused(x, INDEX, "several(1, 5)", () -> x.several(1, 5));
        Check.refused(x, INDEX, "several(-1, 0)", () -> x.several(-1, 0));
    }

    private static void promise12Long() {
        WordWright x = new WordWright();
        x.machine();
        x.arc(0, 0, 3, 1, 1);
        x.arc(0, 1, 1, 2, 1);
        x.arc(0, 2, 0, 2, 1);
        x.arc(0, 2, 2, 3, 1);
        x.finals(0, 8);
        Check.due(0, "several of one way", () -> x.several(0, 4));
        x.arc(0, 2, 0, 2, 2);
        Check.due(Check.word("3102"), "several of the longest", () -> x.several(0, 4));
        Check.due(0, "several of shorter ones", () -> x.several(0, 3));
        x.arc(0, 2, 0, 3, 2);
        Check.due(Check.word("3100"), "several, the least", () -> x.several(0, 4));
        // Two ways that write the same are not several.
        WordWright y = new WordWright();
        y.machine();
        y.finals(0, 7);
        y.arc(0, 0, 0, 1, 3);
        y.arc(0, 0, 0, 2, 3);
        Check.due(0, "several of two ways", () -> y.several(0, 4));
    }

    private static void loopIs(WordWright x, String first, String second) {
        Check.due(first == null ? 0 : Check.word(first), "loop(0, 0)", () -> x.loop(0, 0));
        Check.due(second == null ? 0 : Check.word(second), "loop(0, 1)", () -> x.loop(0, 1));
    }

    private static void promise13Loop() {
        WordWright x = new WordWright();
        x.machine();
        x.finals(0, 4);
        loopIs(x, null, null);
        x.arc(0, 0, 3, 1, 3);
        x.arc(0, 1, 2, 2, -1);
        loopIs(x, null, null);
        x.arc(0, 2, 2, 1, 0);
        loopIs(x, "3", "22");
        x.arc(0, 1, 1, 2, 0);
        loopIs(x, "3", "12");
        // A LOOP with fewer LETTERS in both, though its first WORD is longer.
        x.arc(0, 3, 0, 3, 0);
        loopIs(x, "3", "12");
        x.finals(0, 12);
        loopIs(x, "3", "12");
        x.arc(0, 0, 2, 3, 0);
        loopIs(x, "2", "0");
        x.arc(0, 0, 1, 0, 0);
        loopIs(x, "2", "0");
        x.finals(0, 13);
        loopIs(x, "", "1");
        Check.refused(x, ARGUMENT, "loop(0, 2)", () -> x.loop(0, 2));
        Check.refused(x, ARGUMENT, "loop(0, -1)", () -> x.loop(0, -1));
        Check.refused(x, INDEX, "loop(1, 2)", () -> x.loop(1, 2));
        Check.refused(x, INDEX, "loop(-1, 0)", () -> x.loop(-1, 0));
        promise13Long();
    }

    private static void promise13Long() {
        WordWright x = new WordWright();
        x.machine();
        // From 0 to 1, round by 2 and 3: the FINAL one in between, or elsewhere, does not matter.
        x.arc(0, 0, 1, 1, 0);
        x.arc(0, 1, 3, 2, 0);
        x.arc(0, 2, 0, 3, 0);
        x.arc(0, 3, 2, 1, 0);
        x.finals(0, 1);
        loopIs(x, null, null);
        x.finals(0, 2);
        loopIs(x, "1", "302");
        x.finals(0, 8);
        loopIs(x, "1", "302");
        // Back and forth between 0, 1, 2 and 3: from 2 to the FINAL 3 and back there are the fewest LETTERS.
        WordWright y = new WordWright();
        y.machine();
        y.arc(0, 0, 0, 1, 0);
        y.arc(0, 1, 0, 0, 0);
        y.arc(0, 1, 1, 2, 0);
        y.arc(0, 2, 1, 1, 0);
        y.arc(0, 2, 2, 3, 0);
        y.arc(0, 3, 2, 2, 0);
        y.finals(0, 8);
        loopIs(y, "01", "22");
        y.finals(0, 4);
        loopIs(y, "0", "11");
        // As many LETTERS: the least first WORD, whatever the second.
        WordWright z = new WordWright();
        z.machine();
        z.arc(0, 0, 1, 1, 0);
        z.arc(0, 1, 0, 1, 0);
        z.arc(0, 0, 0, 2, 0);
        z.arc(0, 2, 3, 2, 0);
        z.finals(0, 6);
        Check.due(Check.word("0"), "loop(0, 0)", () -> z.loop(0, 0));
        Check.due(Check.word("3"), "loop(0, 1)", () -> z.loop(0, 1));
        // The same first WORD: the least second one.
        z.arc(0, 0, 0, 1, 0);
        Check.due(Check.word("0"), "loop(0, 0)", () -> z.loop(0, 0));
        Check.due(Check.word("0"), "loop(0, 1)", () -> z.loop(0, 1));
        z.arc(0, 0, 0, 3, 0);
        z.arc(0, 3, 1, 3, 0);
        z.finals(0, 12);
        Check.due(Check.word("0"), "loop(0, 0)", () -> z.loop(0, 0));
        Check.due(Check.word("1"), "loop(0, 1)", () -> z.loop(0, 1));
    }

    private static void promise14Breaks() {
        WordWright x = Check.lettered();
        int m = x.machine();
        // It writes each LETTER as it is, but for the second 0 in a row, which is left out or turned to 3.
        x.arc(m, 0, 0, 1, 0);
        x.arc(m, 0, 1, 0, 1);
        x.arc(m, 1, 1, 0, 1);
        x.arc(m, 1, 0, 0, -1);
        x.arc(m, 1, 0, 0, 3);
        x.finals(m, 1);
        int bits = x.make(8, x.make(5, 2, 3), 0);
        Check.due(Check.word("00"), "breaks of bits", () -> x.breaks(m, bits, bits));
        Check.due(0, "breaks of what is not written", () -> x.breaks(m, 2, 0));
        Check.due(1, "breaks of the BLANK one", () -> x.breaks(m, 1, 0));
        Check.due(0, "breaks with ALL", () -> x.breaks(m, 1, 1));
        Check.due(Check.word("1"), "breaks of 1", () -> x.breaks(m, 3, 0));
        int three = Check.single(x, "100");
        Check.due(Check.word("100"), "breaks of one WORD", () -> x.breaks(m, three, x.make(5, 3, 0)));
        x.finals(m, 0);
        Check.due(0, "breaks without FINAL STATES", () -> x.breaks(m, 1, 0));
        Check.refused(x, INDEX, "breaks(1, 0, 0)", () -> x.breaks(1, 0, 0));
        Check.refused(x, INDEX, "breaks(-1, 0, 0)", () -> x.breaks(-1, 0, 0));
        Check.refused(x, INDEX, "breaks(0, 99, 0)", () -> x.breaks(0, 99, 0));
        Check.refused(x, INDEX, "breaks(0, 0, -1)", () -> x.breaks(0, 0, -1));
        promise14Long();
    }

    private static void promise14Long() {
        WordWright x = Check.lettered();
        int m = x.machine();
        x.arc(m, 0, 1, 1, -1);
        x.arc(m, 1, 1, 0, 2);
        x.arc(m, 1, 2, 0, 2);
        x.finals(m, 1);
        // It writes half as many LETTERS; so that 5 are written for 10, and 6 for 12.
        int short4 = x.make(7, x.make(10, Check.single(x, "2222"), 0), 0);
        Check.due(Check.word("1111111111"), "breaks with 10 LETTERS", () -> x.breaks(m, 1, short4));
        int short5 = x.make(10, Check.single(x, "22222"), 0);
        Check.refused(x, ARITHMETIC, "breaks with 12 LETTERS", () -> x.breaks(m, 1, short5));
        Check.refused(x, INDEX, "breaks of no LANGUAGE with 12 LETTERS", () -> x.breaks(m, 1, x.many(0)));
        int even = x.make(8, Check.single(x, "12"), 0);
        Check.due(Check.word("1212121212"), "breaks of some", () -> x.breaks(m, even, short4));
    }
}
