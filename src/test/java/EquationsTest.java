/** Promises 15 to 20 and 34: EQUATIONS. */
public final class EquationsTest {
    private static final Class<IllegalArgumentException> ARGUMENT = IllegalArgumentException.class;
    private static final Class<IllegalStateException> STATE = IllegalStateException.class;
    private static final Class<IndexOutOfBoundsException> INDEX = IndexOutOfBoundsException.class;

    public static void main(String[] args) {
        promise15Domain();
        promise16Equation();
        promise17Symbol();
        promise18Undo();
        promise19Solved();
        promise20Solutions();
        promise34SolutionsWith();
        Check.end("EquationsTest");
    }

    /** Adds an EQUATION of SYMBOLS that are written out: LETTERS, and w to z for the VARIABLES 0 to 3. */
    private static void equate(WordWright x, String one, String other) {
        int equation = x.equation();
        String[] sides = {one, other};
        for (int side = 0; side < 2; side++) {
            for (char c : sides[side].toCharArray()) {
                x.symbol(equation, side, c >= 'w' ? 10 + c - 'w' : c - '0');
            }
        }
    }

    private static void solutionIs(WordWright x, int count, String... words) {
        Check.due(count, "solutions()", x::solutions);
        for (int v = 0; v < 4; v++) {
            int variable = v;
            int due = count == 0 ? 0 : Check.word(words[v]);
            Check.due(due, "solved(" + v + ")", () -> x.solved(variable));
        }
    }

    private static void promise15Domain() {
        WordWright x = Check.lettered();
        Check.due(1, "domain(0, 1, 0)", () -> x.domain(0, 1, 0));
        Check.due(0, "domain(0, 1, 2)", () -> x.domain(0, 1, 2));
        Check.due(2, "domain(0, 4, 1)", () -> x.domain(0, 4, 1));
        Check.due(1, "domain(3, 5, 2)", () -> x.domain(3, 5, 2));
        solutionIs(x, 25, "2", "", "", "3");
        Check.refused(x, ARGUMENT, "domain(0, 6, 0)", () -> x.domain(0, 6, 0));
        Check.refused(x, ARGUMENT, "domain(0, -1, 0)", () -> x.domain(0, -1, 0));
        Check.refused(x, ARGUMENT, "domain(0, 0, 3)", () -> x.domain(0, 0, 3));
        Check.refused(x, ARGUMENT, "domain(0, 0, -1)", () -> x.domain(0, 0, -1));
        Check.refused(x, INDEX, "domain(4, 6, 3)", () -> x.domain(4, 6, 3));
        Check.refused(x, INDEX, "domain(-1, 0, 0)", () -> x.domain(-1, 0, 0));
        Check.due(1, "domain as it was", () -> x.domain(0, 0, 0));
        solutionIs(x, 0);
    }

    private static void promise16Equation() {
        WordWright x = new WordWright();
        for (int i = 0; i < 4; i++) {
            int number = i;
            Check.due(number, "equation()", x::equation);
        }
        solutionIs(x, 625, "", "", "", "");
        Check.refused(x, STATE, "equation() with 4", x::equation);
        x.symbol(3, 0, 0);
        solutionIs(x, 0);
        x.undo();
        Check.due(3, "equation() anew", x::equation);
        solutionIs(x, 625, "", "", "", "");
        Check.due(1, "symbol of the new one", () -> x.symbol(3, 0, 10));
        solutionIs(x, 125, "", "", "", "");
    }

    private static void promise17Symbol() {
        WordWright x = new WordWright();
        x.equation();
        int[] wrong = {-1, 4, 9, 14, 15, Integer.MAX_VALUE, Integer.MIN_VALUE, Integer.MIN_VALUE + 10};
        for (int w : wrong) {
            Check.refused(x, ARGUMENT, "symbol(0, 0, " + w + ")", () -> x.symbol(0, 0, w));
        }
        for (int i = 0; i < 6; i++) {
            int due = i + 1;
            int symbol = i < 4 ? i : 6 + i;
            Check.due(due, "symbol(0, 1, " + symbol + ")", () -> x.symbol(0, 1, symbol));
        }
        Check.refused(x, STATE, "symbol of a full SIDE", () -> x.symbol(0, 1, 13));
        Check.refused(x, ARGUMENT, "wrong symbol of a full SIDE", () -> x.symbol(0, 1, 14));
        Check.due(1, "symbol of the other SIDE", () -> x.symbol(0, 0, 13));
        Check.refused(x, ARGUMENT, "symbol(0, 2, 0)", () -> x.symbol(0, 2, 0));
        Check.refused(x, ARGUMENT, "symbol(0, -1, 0)", () -> x.symbol(0, -1, 0));
        Check.refused(x, INDEX, "symbol(1, 2, 4)", () -> x.symbol(1, 2, 4));
        Check.refused(x, INDEX, "symbol(-1, 0, 0)", () -> x.symbol(-1, 0, 0));
        Check.due(7, "many(4)", () -> x.many(4));
    }

    private static void promise18Undo() {
        WordWright x = new WordWright();
        Check.refused(x, STATE, "undo() without any", x::undo);
        equate(x, "w", "x");
        equate(x, "0", "1");
        solutionIs(x, 0);
        Check.due(1, "undo()", x::undo);
        solutionIs(x, 125, "", "", "", "");
        Check.due(2, "many(4)", () -> x.many(4));
        Check.due(0, "undo()", x::undo);
        solutionIs(x, 625, "", "", "", "");
        Check.refused(x, STATE, "undo() behind the first", x::undo);
        Check.refused(x, INDEX, "symbol of what is gone", () -> x.symbol(0, 0, 0));
    }

    private static void promise19Solved() {
        WordWright x = Check.lettered();
        Check.refused(x, INDEX, "solved(4)", () -> x.solved(4));
        Check.refused(x, INDEX, "solved(-1)", () -> x.solved(-1));
        equate(x, "wx", "012");
        solutionIs(x, 0);
        x.domain(0, 1, 2);
        solutionIs(x, 25, "01", "2", "", "");
        x.domain(1, 1, 2);
        // As many LETTERS in all: the one with the least WORD of the VARIABLE 0.
        solutionIs(x, 50, "0", "12", "", "");
        x.undo();
        // The fewest LETTERS count first, then the WORD of 0, though that of 2 would be less the other way round.
        int bits = x.make(5, 2, 3);
        int some = x.make(7, 1, 2);
        x.domain(0, bits, 1);
        x.domain(1, 1, 1);
        x.domain(2, some, 1);
        equate(x, "ywx", "zzww");
        Check.due(Check.word("0"), "solved(0)", () -> x.solved(0));
        Check.due(Check.word("0"), "solved(1)", () -> x.solved(1));
        Check.due(1, "solved(2)", () -> x.solved(2));
        Check.due(1, "solved(3)", () -> x.solved(3));
    }

    private static void promise20Solutions() {
        WordWright x = Check.lettered();
        for (int v = 0; v < 4; v++) {
            x.domain(v, 1, 2);
        }
        solutionIs(x, 194481, "", "", "", "");
        equate(x, "wxyz", "zyxw");
        // Counted by hand, WORD by WORD.
        Check.due(palindromes(), "solutions()", x::solutions);
        x.undo();
        equate(x, "w1", "1w");
        solutionIs(x, 3 * 9261, "", "", "", "");
        equate(x, "xw", "y");
        // Of w: the BLANK one with 21 of x; 1 with 5, 11 with 1.
        solutionIs(x, 27 * 21, "", "", "", "");
        equate(x, "z", "30");
        solutionIs(x, 27, "", "", "", "30");
        equate(x, "zz", "3030");
        solutionIs(x, 27, "", "", "", "30");
        x.symbol(3, 1, 13);
        solutionIs(x, 0);
        x.undo();
        x.domain(0, x.make(7, 1, x.make(1, 0, 0)), 2);
        solutionIs(x, 6, "1", "", "1", "30");
        promise20LongSides();
        promise20LongestWords();
    }

    private static int palindromes() {
        String[] words = Check.words(2);
        int count = 0;
        for (String w : words) {
            for (String x : words) {
                for (String y : words) {
                    for (String z : words) {
                        count += (w + x + y + z).equals(z + y + x + w) ? 1 : 0;
                    }
                }
            }
        }
        return count;
    }

    private static void promise20LongSides() {
        WordWright x = new WordWright();
        x.domain(0, 1, 2);
        x.domain(1, 1, 2);
        equate(x, "wwwwww", "xxxxxx");
        solutionIs(x, 21 * 25, "", "", "", "");
        equate(x, "w", "31");
        solutionIs(x, 25, "31", "31", "", "");
        equate(x, "wxwxwx", "313131");
        solutionIs(x, 0);
    }

    private static void promise20LongestWords() {
        WordWright x = Check.lettered();
        int any = x.make(5, x.make(5, 2, 3), x.make(5, 4, 5));
        int two = x.make(4, any, any);
        for (int v = 0; v < 4; v++) {
            x.domain(v, two, 2);
        }
        solutionIs(x, 65536, "00", "00", "00", "00");
        equate(x, "wx", "yz");
        equate(x, "w", "z");
        solutionIs(x, 16, "00", "00", "00", "00");
        x.domain(0, Check.single(x, "12"), 2);
        solutionIs(x, 1, "12", "12", "12", "12");
        x.domain(3, two, 1);
        solutionIs(x, 0);
    }

    private static void promise34SolutionsWith() {
        WordWright x = Check.lettered();
        Check.due(2625, "solutionsWith(0, 2)", () -> x.solutionsWith(0, 2));
        Check.due(125, "solutionsWith(3, 0)", () -> x.solutionsWith(3, 0));
        Check.due(625, "solutionsWith(3, 1)", () -> x.solutionsWith(3, 1));
        solutionIs(x, 625, "", "", "", "");
        equate(x, "wx", "31");
        Check.due(1, "solutions()", () -> x.solutions() / 25);
        Check.due(50, "solutionsWith(0, 2)", () -> x.solutionsWith(0, 2));
        Check.due(0, "solutionsWith(1, 0)", () -> x.solutionsWith(1, 0));
        solutionIs(x, 25, "3", "1", "", "");
        x.domain(1, 2, 1);
        Check.due(0, "solutionsWith(0, 2) with another LANGUAGE", () -> x.solutionsWith(0, 2));
        Check.due(1, "domain as it was", () -> x.domain(0, 1, 1));
        Check.refused(x, ARGUMENT, "solutionsWith(0, 3)", () -> x.solutionsWith(0, 3));
        Check.refused(x, ARGUMENT, "solutionsWith(0, -1)", () -> x.solutionsWith(0, -1));
        Check.refused(x, INDEX, "solutionsWith(4, 3)", () -> x.solutionsWith(4, 3));
        Check.refused(x, INDEX, "solutionsWith(-1, 0)", () -> x.solutionsWith(-1, 0));
    }
}
