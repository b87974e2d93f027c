/** Promises 15 to 20 and 34, and the part 3 of the Terms: each sentence that names a boundary, for EQUATIONS. */
public final class EquationBoundsTest {
    public static void main(String[] args) {
        allAndOneAtFirst();
        mostZeroToTwo();
        languageWithoutAWord();
        fourEquationsAtMost();
        blankSides();
        sixSymbolsAtMost();
        lettersAndVariables();
        longestSides();
        undoToNone();
        orderOfSolutions();
        lettersOfEachVariableCount();
        noSolution();
        fewestAndMostSolutions();
        promise34EachMost();
        Check.end("EquationBoundsTest");
    }

    private static void add(WordWright x, int side, int... symbols) {
        for (int symbol : symbols) {
            Calls.answer(x, "symbol EQUATIONS-1 " + side + " " + symbol);
        }
    }

    private static void solvedAre(WordWright x, int count, int... words) {
        Check.due(x, count, "solutions");
        for (int v = 0; v < 4; v++) {
            Check.due(x, words[v], "solved " + v);
        }
    }

    /** "each with a LANGUAGE (ALL at first) and a MOST (0 to 2 LETTERS; 1 at first)" */
    private static void allAndOneAtFirst() {
        WordWright x = new WordWright();
        solvedAre(x, 5 * 5 * 5 * 5, 1, 1, 1, 1);
        for (int v = 0; v < 4; v++) {
            Check.due(x, 1, "domain " + v + " 1 1");
            Check.due(x, 625, "solutions");
        }
        Check.due(x, "throws IndexOutOfBoundsException", "domain 4 1 1");
        Check.due(x, "throws IndexOutOfBoundsException", "domain -1 1 1");
    }

    /** "most is not 0 to 2"; "not longer than its MOST" */
    private static void mostZeroToTwo() {
        WordWright x = new WordWright();
        int[] words = {1, 5, 21};
        int before = 1;
        for (int v = 0; v < 4; v++) {
            for (int most = 0; most <= 2; most++) {
                Check.due(x, before, "domain " + v + " 1 " + most);
                Check.due(x, 125 * words[most], "solutions");
                before = most;
            }
            Check.due(x, "throws IllegalArgumentException", "domain " + v + " 1 3");
            Check.due(x, "throws IllegalArgumentException", "domain " + v + " 1 -1");
            Check.due(x, 2, "domain " + v + " 1 1");
            before = 1;
        }
        for (int v = 0; v < 4; v++) {
            x.domain(v, 1, 0);
        }
        solvedAre(x, 1, 1, 1, 1, 1);
    }

    /** "a WORD for each VARIABLE of its LANGUAGE": also for one that stands in no EQUATION. */
    private static void languageWithoutAWord() {
        WordWright x = Check.lettered();
        x.domain(3, 0, 2);
        solvedAre(x, 0, 0, 0, 0, 0);
        // A WORD that is longer than the MOST does not count.
        int two = Check.single(x, "31");
        for (int most = 0; most <= 1; most++) {
            x.domain(3, two, most);
            solvedAre(x, 0, 0, 0, 0, 0);
        }
        x.domain(3, two, 2);
        solvedAre(x, 125, 1, 1, 1, Check.word("31"));
        x.domain(3, x.make(1, 0, 0), 2);
        solvedAre(x, 125, 1, 1, 1, 1);
        x.domain(3, 5, 0);
        solvedAre(x, 0, 0, 0, 0, 0);
        x.domain(3, 5, 1);
        solvedAre(x, 125, 1, 1, 1, 7);
        x.domain(3, Check.single(x, "313"), 2);
        solvedAre(x, 0, 0, 0, 0, 0);
    }

    /** "At most 4 EQUATIONS, numbered from 0" */
    private static void fourEquationsAtMost() {
        WordWright x = new WordWright();
        for (int e = 0; e < 4; e++) {
            Check.due(x, "throws IndexOutOfBoundsException", "symbol " + e + " 0 0");
            Check.due(x, e, "equation");
            Check.due(x, e + 1, "many 3");
        }
        Check.due(x, "throws IllegalStateException", "equation");
        Check.due(x, 4, "many 3");
        Check.due(x, "throws IndexOutOfBoundsException", "symbol 4 0 0");
        // The last of the four counts, too.
        Check.due(x, 1, "symbol 3 0 10");
        Check.due(x, 125, "solutions");
    }

    /** "Adds an EQUATION of two BLANK SIDES." */
    private static void blankSides() {
        WordWright x = new WordWright();
        x.equation();
        solvedAre(x, 625, 1, 1, 1, 1);
        Check.due(x, 0, "many 4");
        // One BLANK SIDE: what is on the other one has to be BLANK.
        add(x, 1, 13);
        solvedAre(x, 125, 1, 1, 1, 1);
        add(x, 1, 13, 11);
        solvedAre(x, 25, 1, 1, 1, 1);
        add(x, 1, 0);
        solvedAre(x, 0, 0, 0, 0, 0);
        x.equation();
        solvedAre(x, 0, 0, 0, 0, 0);
    }

    /** "rows of at most 6 SYMBOLS"; "how many the SIDE has then" */
    private static void sixSymbolsAtMost() {
        WordWright x = new WordWright();
        for (int e = 0; e < 4; e++) {
            x.equation();
            for (int side = 0; side < 2; side++) {
                for (int i = 1; i <= 6; i++) {
                    Check.due(x, i, "symbol " + e + " " + side + " " + (i == 6 ? 10 : 2));
                }
                Check.due(x, "throws IllegalStateException", "symbol " + e + " " + side + " 2");
            }
            Check.due(x, 12 * (e + 1), "many 4");
            Check.due(x, 625, "solutions");
        }
        // The sixth SYMBOL counts.
        WordWright y = new WordWright();
        y.equation();
        add(y, 0, 0, 0, 0, 0, 0, 10);
        add(y, 1, 0, 0, 0, 0, 0, 3);
        solvedAre(y, 125, 7, 1, 1, 1);
    }

    /** "LETTERS, and 10 + v for the VARIABLE v"; "side: 0 the first SIDE, 1 the other one" */
    private static void lettersAndVariables() {
        for (int letter = 0; letter < 4; letter++) {
            for (int v = 0; v < 4; v++) {
                WordWright x = new WordWright();
                x.equation();
                Check.due(x, 1, "symbol 0 " + v % 2 + " " + letter);
                Check.due(x, 1, "symbol 0 " + (1 - v % 2) + " " + (10 + v));
                Check.due(x, 125, "solutions");
                for (int u = 0; u < 4; u++) {
                    Check.due(x, u == v ? 4 + letter : 1, "solved " + u);
                }
            }
        }
        WordWright x = new WordWright();
        x.equation();
        for (int wrong : new int[] {-1, 4, 9, 14}) {
            Check.due(x, "throws IllegalArgumentException", "symbol 0 0 " + wrong);
        }
        for (int wrong : new int[] {-1, 2}) {
            Check.due(x, "throws IllegalArgumentException", "symbol 0 " + wrong + " 0");
        }
        Check.due(x, 0, "many 4");
    }

    /** Six VARIABLES of two LETTERS on each SIDE are the longest; "such that .. both SIDES are the same" */
    private static void longestSides() {
        WordWright x = new WordWright();
        x.domain(0, 1, 2);
        x.domain(1, 1, 2);
        x.equation();
        add(x, 0, 10, 10, 10, 10, 10, 10);
        add(x, 1, 11, 11, 11, 11, 11, 11);
        x.equation();
        add(x, 0, 10);
        add(x, 1, 3, 1);
        solvedAre(x, 25, Check.word("31"), Check.word("31"), 1, 1);
        // As many LETTERS on both SIDES, which differ in the last one alone.
        x.undo();
        x.equation();
        add(x, 0, 10, 11, 10, 11, 10, 3);
        add(x, 1, 11, 10, 11, 10, 11, 2);
        solvedAre(x, 0, 0, 0, 0, 0);
        x.undo();
        // A SIDE of twelve LETTERS, and one of six.
        x.equation();
        add(x, 0, 10, 11, 10, 11, 10, 11);
        add(x, 1, 0, 0, 0, 0, 0, 0);
        solvedAre(x, 25, 4, 4, 1, 1);
    }

    /** "Takes the last EQUATION away."; "if there is none" */
    private static void undoToNone() {
        WordWright x = new WordWright();
        Check.due(x, "throws IllegalStateException", "undo");
        for (int e = 0; e < 4; e++) {
            x.equation();
            add(x, 0, 10 + e);
        }
        int[] solutions = {625, 125, 25, 5, 1};
        for (int left = 4; left > 0; left--) {
            Check.due(x, left, "many 4");
            Check.due(x, solutions[left], "solutions");
            Check.due(x, left - 1, "undo");
            Check.due(x, left - 1, "many 3");
        }
        Check.due(x, 625, "solutions");
        Check.due(x, "throws IllegalStateException", "undo");
        Check.due(x, 0, "many 3");
        // A new one by an old number is BLANK.
        Check.due(x, 0, "equation");
        Check.due(x, 625, "solutions");
        Check.due(x, 1, "symbol 0 0 10");
    }

    /** "first by all the LETTERS of the WORDS of all VARIABLES together, then by the WORD of the VARIABLE 0, of 1, and so on" */
    private static void orderOfSolutions() {
        WordWright x = new WordWright();
        for (int v = 0; v < 4; v++) {
            x.domain(v, 1, 2);
        }
        x.equation();
        add(x, 0, 10, 11, 12, 13);
        add(x, 1, 3, 2);
        // BLANK ones for 0 and 1 are first of those with two LETTERS: 32 for 3 has the least WORDS ahead of it.
        solvedAre(x, 10, 1, 1, 1, Check.word("32"));
        x.undo();
        x.equation();
        add(x, 0, 10, 10, 11, 12);
        add(x, 1, 3, 3);
        // One LETTER in all, though 0 has a greater WORD than where 1 and 2 have two LETTERS.
        solvedAre(x, 4 * 21, 7, 1, 1, 1);
        x.undo();
        x.equation();
        add(x, 0, 11, 12, 13);
        add(x, 1, 3);
        solvedAre(x, 3 * 21, 1, 1, 1, 7);
    }

    /** Two LETTERS of the one, or one of the other: whichever of them comes first. */
    private static void lettersOfEachVariableCount() {
        for (int v = 0; v < 4; v++) {
            for (int u = 0; u < 4; u++) {
                if (u != v) {
                    WordWright x = new WordWright();
                    x.domain(v, 1, 2);
                    x.equation();
                    add(x, 0, 10 + v, 10 + u, 10 + u);
                    add(x, 1, 3, 3);
                    int[] words = {1, 1, 1, 1};
                    words[u] = 7;
                    solvedAre(x, 50, words);
                }
            }
        }
    }

    /** "0 without one" */
    private static void noSolution() {
        WordWright x = new WordWright();
        x.equation();
        add(x, 0, 0);
        add(x, 1, 1);
        solvedAre(x, 0, 0, 0, 0, 0);
        x.undo();
        solvedAre(x, 625, 1, 1, 1, 1);
        x.equation();
        add(x, 0, 10, 0);
        add(x, 1, 1, 10);
        solvedAre(x, 0, 0, 0, 0, 0);
    }

    /** "how many SOLUTIONS there are": none, one, and as many as there can be. */
    private static void fewestAndMostSolutions() {
        WordWright x = Check.lettered();
        for (int v = 0; v < 4; v++) {
            x.domain(v, 1, 2);
        }
        solvedAre(x, 21 * 21 * 21 * 21, 1, 1, 1, 1);
        for (int v = 0; v < 4; v++) {
            x.equation();
            add(x, 0, 10 + v);
            add(x, 1, 3, v);
        }
        solvedAre(x, 1, Check.word("30"), Check.word("31"), Check.word("32"), Check.word("33"));
        x.domain(3, 5, 2);
        solvedAre(x, 0, 0, 0, 0, 0);
    }

    /** "how many SOLUTIONS there would be with that": 0, 1 and 2, of each VARIABLE, and nothing is changed. */
    private static void promise34EachMost() {
        WordWright x = Check.lettered();
        x.equation();
        add(x, 0, 10, 11);
        add(x, 1, 3, 1);
        int[][] due = {{0, 25, 50}, {0, 25, 50}, {5, 25, 105}, {5, 25, 105}};
        for (int v = 0; v < 4; v++) {
            for (int most = 0; most <= 2; most++) {
                Check.due(x, due[v][most], "solutionsWith " + v + " " + most);
                solvedAre(x, 25, 7, 5, 1, 1);
            }
        }
        for (int v = 0; v < 4; v++) {
            Check.due(x, 1, "domain " + v + " 0 1");
            Check.due(x, 0, "solutionsWith " + v + " 2");
            Check.due(x, 1, "domain " + v + " 1 1");
        }
    }
}
