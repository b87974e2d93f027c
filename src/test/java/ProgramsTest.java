/** Promises 27 to 31: the PROGRAM, and how many there are. */
public final class ProgramsTest {
    private static final Class<IllegalArgumentException> ARGUMENT = IllegalArgumentException.class;
    private static final Class<IllegalStateException> STATE = IllegalStateException.class;
    private static final Class<IndexOutOfBoundsException> INDEX = IndexOutOfBoundsException.class;
    private static final int ANY = 0;
    private static final int COPY = 1;
    private static final int ADD = 2;
    private static final int PASS = 3;
    private static final int IF = 4;
    private static final int GO = 5;
    private static final int SINK = 6;

    public static void main(String[] args) {
        promise27Step();
        promise28Clear();
        promise29InARow();
        promise29Refusals();
        promise29Nothing();
        promise29Branches();
        promise29Machines();
        promise29SetsOfPairs();
        promise29TooManyStates();
        promise29Rounds();
        promise29WideRounds();
        promise29ItselfAsTarget();
        promise30Bad();
        promise31Many();
        Check.end("ProgramsTest");
    }

    /** A new object with the LETTERS as LANGUAGES 2 to 5, and a MACHINE without ARCS. */
    private static WordWright ready() {
        WordWright x = Check.lettered();
        x.machine();
        return x;
    }

    /** The SPAN is there, and has that SIZE, that least WORD, and no end of WORDS or one. */
    private static void spanIs(WordWright x, int step, int string, int size, String least, boolean endless) {
        String call = "span(" + step + ", " + string + ", ";
        Check.due(1, call + "0)", () -> x.span(step, string, 0));
        Check.due(size, call + "1)", () -> x.span(step, string, 1));
        Check.due(Check.word(least), call + "2)", () -> x.span(step, string, 2));
        Check.due(endless ? 1 : 0, call + "3)", () -> x.span(step, string, 3));
    }

    private static void isAll(WordWright x, int step, int string) {
        spanIs(x, step, string, 1, "", true);
    }

    private static void nothingCame(WordWright x, int step) {
        for (int i = 0; i < 12; i++) {
            int string = i / 4;
            int what = i % 4;
            Check.due(0, "span(" + step + ", " + string + ", " + what + ")", () -> x.span(step, string, what));
        }
    }

    private static void promise27Step() {
        WordWright x = ready();
        int[][] wrong = {{-1, 0, 0, 0}, {7, 0, 0, 0}, {Integer.MAX_VALUE, 0, 0, 0}, {ANY, 3, 0, 0}, {ANY, -1, 0, 0},
            {ANY, 0, 6, 0}, {ANY, 0, -1, 0}, {ANY, 0, 0, 1}, {COPY, 3, 0, 0}, {COPY, 0, 3, 0}, {COPY, 0, -1, 0},
            {COPY, 0, 0, 1}, {ADD, -1, 0, 0}, {ADD, 0, 3, 0}, {ADD, 0, 0, -1}, {PASS, 3, 0, 0}, {PASS, 0, 1, 0},
            {PASS, 0, -1, 0}, {PASS, 0, 0, 1}, {IF, 3, 0, 0}, {IF, 0, 6, 0}, {IF, 0, -1, 0}, {IF, 0, 0, 11}, {IF, 0, 0, -1},
            {GO, 1, 0, 0}, {GO, 0, 1, 0}, {GO, 0, 0, 11}, {GO, 0, 0, -1}, {SINK, 3, 0, 0}, {SINK, 0, 6, 0}, {SINK, 0, 0, 1}};
        int[][] right = {{ANY, 2, 5, 0}, {COPY, 2, 2, 0}, {ADD, 2, 2, 0}, {PASS, 2, 0, 0}, {IF, 2, 5, 10}, {IF, 0, 0, 0},
            {GO, 0, 0, 10}, {GO, 0, 0, 0}, {SINK, 2, 5, 0}, {SINK, 0, 0, 0}};
        for (int i = 0; i < right.length; i++) {
            int number = i;
            if (i % 3 == 0) {
                refuseSteps(x, wrong);
            }
            int[] r = right[i];
            Check.due(number, "step " + i, () -> x.step(r[0], r[1], r[2], r[3]));
        }
        Check.refused(x, STATE, "step with 10", () -> x.step(GO, 0, 0, 0));
        refuseSteps(x, wrong);
    }

    private static void refuseSteps(WordWright x, int[][] wrong) {
        for (int[] w : wrong) {
            String call = "step(" + w[0] + ", " + w[1] + ", " + w[2] + ", " + w[3] + ")";
            Check.refused(x, ARGUMENT, call, () -> x.step(w[0], w[1], w[2], w[3]));
        }
    }

    private static void promise28Clear() {
        WordWright x = ready();
        Check.due(0, "clear()", x::clear);
        x.step(ANY, 0, 2, 0);
        x.step(SINK, 0, 3, 0);
        Check.due(4, "bad(1)", () -> x.bad(1));
        Check.due(2, "clear()", x::clear);
        Check.due(0, "many(7)", () -> x.many(7));
        Check.due(0, "many(8)", () -> x.many(8));
        Check.due(0, "many(9)", () -> x.many(9));
        nothingCame(x, 0);
        nothingCame(x, 10);
        Check.due(0, "step anew", () -> x.step(COPY, 0, 1, 0));
        spanIs(x, 10, 0, 2, "", false);
    }

    private static void promise29InARow() {
        WordWright x = ready();
        int two = Check.single(x, "01");
        x.step(ANY, 0, two, 0);
        x.step(COPY, 1, 0, 0);
        x.step(ADD, 1, 0, 0);
        x.step(ADD, 1, 1, 0);
        x.step(ANY, 0, x.make(8, 5, 0), 0);
        for (int string = 0; string < 3; string++) {
            spanIs(x, 0, string, 2, "", false);
            spanIs(x, 1, string, string == 0 ? 4 : 2, string == 0 ? "01" : "", false);
        }
        spanIs(x, 2, 0, 4, "01", false);
        spanIs(x, 2, 1, 4, "01", false);
        spanIs(x, 3, 1, 6, "0101", false);
        spanIs(x, 4, 1, 10, "01010101", false);
        for (int step = 5; step <= 10; step++) {
            spanIs(x, step, 0, 2, "", true);
            spanIs(x, step, 1, 10, "01010101", false);
            spanIs(x, step, 2, 2, "", false);
        }
        Check.due(2, "many(8)", () -> x.many(8));
    }

    private static void promise29Refusals() {
        WordWright x = ready();
        x.step(GO, 0, 0, 1);
        Check.refused(x, ARGUMENT, "span(0, 0, 4)", () -> x.span(0, 0, 4));
        Check.refused(x, ARGUMENT, "span(0, 0, -1)", () -> x.span(0, 0, -1));
        Check.refused(x, INDEX, "span(11, 0, 4)", () -> x.span(11, 0, 4));
        Check.refused(x, INDEX, "span(-1, 0, 0)", () -> x.span(-1, 0, 0));
        Check.refused(x, INDEX, "span(0, 3, 4)", () -> x.span(0, 3, 4));
        Check.refused(x, INDEX, "span(0, -1, 0)", () -> x.span(0, -1, 0));
    }

    private static void promise29Nothing() {
        WordWright x = ready();
        x.step(ANY, 0, 0, 0);
        x.step(SINK, 0, 0, 0);
        nothingCame(x, 1);
        nothingCame(x, 10);
        Check.due(1, "many(8)", () -> x.many(8));
        Check.due(0, "bad(1)", () -> x.bad(1));
        x.clear();
        x.step(GO, 0, 0, 2);
        x.step(ANY, 0, 2, 0);
        x.step(SINK, 1, 1, 0);
        nothingCame(x, 1);
        spanIs(x, 2, 0, 2, "", false);
        spanIs(x, 3, 0, 2, "", false);
        x.clear();
        x.step(GO, 0, 0, 0);
        nothingCame(x, 1);
        spanIs(x, 0, 2, 2, "", false);
        Check.due(1, "many(8) of a STEP that goes to itself", () -> x.many(8));
    }

    private static void promise29Branches() {
        WordWright x = ready();
        int bits = x.make(5, 2, 3);
        x.step(ANY, 0, bits, 0);
        x.step(IF, 0, 2, 4);
        x.step(ANY, 1, 4, 0);
        x.step(GO, 0, 0, 9);
        x.step(ANY, 1, 5, 0);
        spanIs(x, 2, 0, 3, "1", false);
        spanIs(x, 4, 0, 3, "0", false);
        spanIs(x, 10, 0, 3, "0", false);
        spanIs(x, 10, 1, 3, "2", false);
        Check.due(2, "many(8)", () -> x.many(8));
        x.clear();
        x.step(IF, 0, 1, 2);
        x.step(ANY, 0, 2, 0);
        x.step(IF, 0, 2, 9);
        x.step(ANY, 0, 3, 0);
        nothingCame(x, 1);
        spanIs(x, 2, 0, 2, "", false);
        spanIs(x, 3, 0, 2, "", false);
        spanIs(x, 10, 0, 3, "1", false);
        x.clear();
        // The END is meant by 10, and by what is behind the last STEP, but no STEP is when there are 10.
        for (int i = 0; i < 9; i++) {
            x.step(GO, 0, 0, 9);
        }
        spanIs(x, 9, 0, 2, "", false);
        spanIs(x, 10, 0, 2, "", false);
        x.step(ANY, 0, 5, 0);
        spanIs(x, 9, 0, 2, "", false);
        spanIs(x, 10, 0, 3, "3", false);
        nothingCame(x, 5);
    }

    private static void promise29Machines() {
        WordWright x = ready();
        x.step(ANY, 0, 2, 0);
        x.step(PASS, 0, 0, 0);
        nothingCame(x, 10);
        x.finals(0, 1);
        nothingCame(x, 10);
        x.arc(0, 0, 0, 0, 3);
        spanIs(x, 10, 0, 3, "3", false);
        x.arc(0, 0, 0, 1, -1);
        spanIs(x, 10, 0, 3, "3", false);
        x.finals(0, 3);
        spanIs(x, 10, 0, 3, "", false);
        Check.due(2, "many(8)", () -> x.many(8));
        x.finals(0, 0);
        nothingCame(x, 10);
        Check.due(2, "many(8)", () -> x.many(8));
    }

    /** Of more than 300 SETS comes ALL, though nothing is written; of 300 nothing. */
    private static void promise29SetsOfPairs() {
        int[][] made = {{4, 1, 3}, {4, 6, 6}, {4, 6, 7}, {5, 8, 5}, {4, 9, 7}, {4, 3, 3}, {8, 0, 0}};
        int[][] arcs = {{2, 0, 1, 1}, {1, 2, 1, 0}, {1, 2, 1, 1}, {0, 1, 3, 1}, {3, 2, 0, 1}, {1, 2, 3, 0}, {0, 3, 2, 0},
            {2, 2, 0, 0}, {0, 1, 0, 1}, {1, 3, 0, 0}};
        nothingCame(passed(made, arcs, 10), 10);
        int[][] more = {{4, 4, 1}, {4, 6, 6}, {4, 1, 7}, {8, 0, 0}, {4, 7, 4}, {4, 10, 7}};
        int[][] moreArcs = {{0, 2, 0, 1}, {0, 1, 1, 0}, {2, 2, 0, 0}, {0, 2, 1, 0}, {1, 2, 3, 1}, {3, 1, 0, 1}, {2, 0, 2, 0},
            {0, 1, 3, 1}, {2, 2, 3, 1}, {3, 0, 3, 0}};
        isAll(passed(more, moreArcs, 11), 10, 0);
    }

    private static WordWright passed(int[][] made, int[][] arcs, int language) {
        WordWright x = ready();
        for (int[] m : made) {
            x.make(m[0], m[1], m[2]);
        }
        for (int[] a : arcs) {
            x.arc(0, a[0], a[1], a[2], a[3]);
        }
        x.step(ANY, 0, language, 0);
        x.step(PASS, 0, 0, 0);
        return x;
    }

    private static void promise29TooManyStates() {
        WordWright x = ready();
        int eight = Check.single(x, "01230123");
        int other = Check.single(x, "32103210");
        int bits = x.make(5, 2, 3);
        x.step(ANY, 0, eight, 0);
        x.step(ADD, 0, 0, 0);
        isAll(x, 10, 0);
        x.clear();
        // Two ways come together: by OR there are too many STATES.
        x.step(ANY, 1, bits, 0);
        x.step(IF, 1, 2, 4);
        x.step(ANY, 0, eight, 0);
        x.step(GO, 0, 0, 5);
        x.step(ANY, 0, other, 0);
        x.step(SINK, 0, eight, 0);
        isAll(x, 5, 0);
        spanIs(x, 5, 1, 3, "0", false);
        Check.due(1, "bad(5)", () -> x.bad(5));
        x.clear();
        // BOTH, and WITHOUT, have too many STATES: 3, 5 and 7 of 0 in a row, time after time.
        int fives = x.make(8, Check.single(x, "00000"), 0);
        int sevens = x.make(8, Check.single(x, "0000000"), 0);
        x.step(ANY, 0, fives, 0);
        x.step(IF, 0, sevens, 3);
        x.step(GO, 0, 0, 4);
        x.step(SINK, 0, fives, 0);
        Check.due(0, "wouldSize of BOTH", () -> x.wouldSize(6, fives, sevens));
        isAll(x, 3, 0);
        isAll(x, 2, 0);
        Check.due(4, "bad(3)", () -> x.bad(3));
    }

    /** A loop that adds a 0 each time, till there is a number of them. */
    private static WordWright counting(String bound) {
        WordWright x = ready();
        x.step(ANY, 1, 2, 0);
        x.step(IF, 0, Check.single(x, bound), 4);
        x.step(ADD, 0, 1, 0);
        x.step(GO, 0, 0, 1);
        x.step(SINK, 0, Check.single(x, "00"), 0);
        return x;
    }

    private static void promise29Rounds() {
        WordWright x = counting("000");
        Check.due(5, "many(8)", () -> x.many(8));
        spanIs(x, 1, 0, 5, "", false);
        spanIs(x, 2, 0, 4, "", false);
        spanIs(x, 3, 0, 5, "0", false);
        spanIs(x, 4, 0, 5, "000", false);
        Check.due(Check.word("000"), "bad(4)", () -> x.bad(4));
        // What is another one by OR in the 5th ROUND is not ALL.
        WordWright y = counting("00000");
        Check.due(7, "many(8)", () -> y.many(8));
        spanIs(y, 1, 0, 7, "", false);
        spanIs(y, 2, 0, 6, "", false);
        spanIs(y, 4, 0, 7, "00000", false);
        spanIs(y, 10, 0, 7, "00000", false);
    }

    private static void promise29WideRounds() {
        WordWright x = ready();
        x.step(ANY, 1, 2, 0);
        x.step(ADD, 0, 1, 0);
        x.step(GO, 0, 0, 1);
        isAll(x, 1, 0);
        isAll(x, 2, 0);
        spanIs(x, 1, 1, 3, "0", false);
        nothingCame(x, 10);
        Check.due(7, "many(8)", () -> x.many(8));
        // In the 6th ROUND what is another one is ALL; what comes first in the 7th is as it comes.
        WordWright y = counting("0000000");
        Check.due(8, "many(8)", () -> y.many(8));
        isAll(y, 1, 0);
        isAll(y, 2, 0);
        isAll(y, 3, 0);
        spanIs(y, 4, 0, 9, "0000000", false);
        spanIs(y, 10, 0, 9, "0000000", false);
        spanIs(y, 10, 1, 3, "0", false);
    }

    private static void promise29ItselfAsTarget() {
        WordWright x = ready();
        int bits = x.make(8, x.make(5, 2, 3), 0);
        int zeros = x.make(8, 2, 0);
        x.step(ANY, 0, bits, 0);
        x.step(IF, 0, zeros, 1);
        spanIs(x, 1, 0, 2, "", true);
        spanIs(x, 10, 0, 3, "1", true);
        Check.due(2, "many(8)", () -> x.many(8));
        x.clear();
        x.step(ANY, 0, bits, 0);
        x.step(IF, 0, zeros, 2);
        spanIs(x, 10, 0, 2, "", true);
    }

    private static void promise30Bad() {
        WordWright x = ready();
        Check.refused(x, INDEX, "bad(0) without STEPS", () -> x.bad(0));
        int fours = x.make(8, Check.single(x, "3333"), 0);
        int fourAndSevens = x.make(4, Check.single(x, "3333"), x.make(8, Check.single(x, "3333333"), 0));
        int fourAndSixes = x.make(4, Check.single(x, "3333"), x.make(8, Check.single(x, "333333"), 0));
        x.step(SINK, 1, 0, 0);
        x.step(ANY, 0, fourAndSevens, 0);
        x.step(SINK, 0, fours, 0);
        x.step(SINK, 1, fours, 0);
        x.step(ANY, 2, fourAndSixes, 0);
        x.step(SINK, 2, fours, 0);
        x.step(SINK, 2, fourAndSixes, 0);
        x.step(GO, 0, 0, 9);
        x.step(SINK, 2, 0, 0);
        int[] due = {1, 0, -1, 0, 0, Check.word("3333333333"), 0, 0, 0};
        for (int i = 0; i < due.length; i++) {
            int step = i;
            Check.due(due[i], "bad(" + i + ")", () -> x.bad(step));
        }
        Check.due(3, "many(9)", () -> x.many(9));
        Check.refused(x, INDEX, "bad(9)", () -> x.bad(9));
        Check.refused(x, INDEX, "bad(-1)", () -> x.bad(-1));
    }

    private static void promise31Many() {
        WordWright x = ready();
        x.machine();
        x.arc(0, 0, 0, 0, 0);
        x.arc(1, 0, 0, 0, 0);
        x.arc(1, 0, 0, 0, -1);
        for (int i = 0; i < 4; i++) {
            x.equation();
        }
        x.symbol(0, 0, 1);
        x.symbol(0, 1, 12);
        x.symbol(3, 1, 12);
        x.symbol(3, 1, 12);
        x.undo();
        x.schema();
        x.node(-1, 0);
        x.node(0, 1);
        x.node(0, 1);
        x.step(ANY, 0, 2, 0);
        x.step(SINK, 0, 3, 0);
        x.step(SINK, 0, 2, 0);
        int[] due = {6, 2, 3, 3, 2, 1, 3, 3, 2, 1};
        for (int i = 0; i < due.length; i++) {
            int what = i;
            Check.due(due[i], "many(" + i + ")", () -> x.many(what));
        }
        Check.refused(x, ARGUMENT, "many(10)", () -> x.many(10));
        Check.refused(x, ARGUMENT, "many(-1)", () -> x.many(-1));
    }
}
