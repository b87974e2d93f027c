/** Promises 27 to 31, and the part 5 of the Terms: each sentence that names a boundary, for PROGRAMS. */
public final class ProgramBoundsTest {
    private static final int ANY = 0;
    private static final int COPY = 1;
    private static final int ADD = 2;
    private static final int PASS = 3;
    private static final int IF = 4;
    private static final int GO = 5;
    private static final int SINK = 6;
    private static final int END = 10;

    public static void main(String[] args) {
        tenStepsAtMost();
        withoutSteps();
        blankAtFirst();
        endBehindTheLast();
        endOfTenSteps();
        eachStepBehindTheLast();
        anyOfNone();
        copyAndAddOfItself();
        passWithoutAnything();
        ifWithNoneAndAll();
        ifInBothWays();
        goToEachEnd();
        sinkPassesOnAll();
        orStringByString();
        tenStatesByJoined();
        tenStatesByOut();
        tenStatesByBoth();
        tenStatesByWithout();
        tenStatesByOr();
        roundThatChangesNothingCounts();
        whatCameCountsAlready();
        fifthRoundIsAsItIs();
        sixthRoundIsAll();
        firstInTheSixthRoundOrLater();
        onlyTheStringThatIsAnother();
        spansAreNoLanguages();
        promise28NoneAndTen();
        promise29WhatZeroToThree();
        promise30BadOrNot();
        promise30TenLetters();
        promise31EachAtItsEnds();
        Check.end("ProgramBoundsTest");
    }

    /** A new object with the LETTERS as 2 to 5, the BLANK one as 6, and a MACHINE without ARCS. */
    private static WordWright ready() {
        WordWright x = Check.lettered();
        x.make(1, 0, 0);
        x.machine();
        return x;
    }

    private static void steps(WordWright x, int[]... rows) {
        x.clear();
        for (int[] r : rows) {
            int due = x.many(7);
            Check.due(x, due, "step " + r[0] + " " + r[1] + " " + r[2] + " " + r[3]);
        }
    }

    private static int[] step(int sort, int a, int b) {
        return new int[] {sort, a, b, 0};
    }

    private static int[] when(int a, int b, int c) {
        return new int[] {IF, a, b, c};
    }

    private static int[] go(int c) {
        return new int[] {GO, 0, 0, c};
    }

    private static void spanIs(WordWright x, int step, int string, int size, String least, int endless) {
        String call = "span " + step + " " + string + " ";
        Check.due(x, 1, call + 0);
        Check.due(x, size, call + 1);
        Check.due(x, Check.word(least), call + 2);
        Check.due(x, endless, call + 3);
    }

    private static void isAll(WordWright x, int step, int string) {
        spanIs(x, step, string, 1, "", 1);
    }

    private static void isBlank(WordWright x, int step, int string) {
        spanIs(x, step, string, 2, "", 0);
    }

    /** Of so many 0, from the first number on: a row of STATES, and the one that none goes on from. */
    private static void isZeros(WordWright x, int step, int string, int fewest, int most) {
        spanIs(x, step, string, most + 2, "0".repeat(fewest), 0);
    }

    private static void nothingCame(WordWright x, int... steps) {
        for (int step : steps) {
            for (int i = 0; i < 12; i++) {
                Check.due(x, 0, "span " + step + " " + i / 4 + " " + i % 4);
            }
        }
    }

    /** "at most 10 STEPS, numbered from 0" */
    private static void tenStepsAtMost() {
        WordWright x = ready();
        for (int s = 0; s < 10; s++) {
            Check.due(x, "throws IndexOutOfBoundsException", "bad " + s);
            Check.due(x, s, "step 6 0 0 0");
            Check.due(x, 1, "bad " + s);
            Check.due(x, s + 1, "many 7");
        }
        Check.due(x, "throws IllegalStateException", "step 6 0 0 0");
        Check.due(x, 10, "many 7");
        Check.due(x, 10, "many 9");
        Check.due(x, "throws IndexOutOfBoundsException", "bad 10");
    }

    /** "Ahead of the STEP 0, if there is one"; "(0 without STEPS)" */
    private static void withoutSteps() {
        WordWright x = ready();
        nothingCame(x, 0, 1, 9, 10);
        Check.due(x, 0, "many 7");
        Check.due(x, 0, "many 8");
        Check.due(x, 0, "many 9");
        Check.due(x, "throws IndexOutOfBoundsException", "bad 0");
        steps(x, step(ANY, 0, 2));
        Check.due(x, 2, "many 8");
        x.clear();
        nothingCame(x, 0, 1, 9, 10);
        Check.due(x, 0, "many 8");
    }

    /** "STRINGS 0 to 2, each the BLANK WORD at first"; "Ahead of the STEP 0 .. all SPANS are just the BLANK one." */
    private static void blankAtFirst() {
        WordWright x = ready();
        steps(x, step(SINK, 0, 6));
        for (int string = 0; string < 3; string++) {
            isBlank(x, 0, string);
            isBlank(x, END, string);
        }
        Check.due(x, 0, "bad 0");
        for (int string = 0; string < 3; string++) {
            steps(x, step(ANY, string, 5));
            for (int other = 0; other < 3; other++) {
                isBlank(x, 0, other);
                spanIs(x, END, other, other == string ? 3 : 2, other == string ? "3" : "", 0);
            }
        }
    }

    /** "behind the last one it ENDS"; "the STEP 10 stands for it, and each one behind the last" */
    private static void endBehindTheLast() {
        WordWright x = ready();
        steps(x, step(ANY, 1, 5));
        isBlank(x, 0, 1);
        for (int step = 1; step <= 10; step++) {
            spanIs(x, step, 1, 3, "3", 0);
        }
        Check.due(x, "throws IndexOutOfBoundsException", "span 11 1 0");
    }

    /** With ten STEPS the STEP 9 is the last one, and just 10 the END. */
    private static void endOfTenSteps() {
        for (int c = 9; c <= 10; c++) {
            WordWright x = ready();
            steps(x, go(c), go(0), go(0), go(0), go(0), go(0), go(0), go(0), go(0), step(ANY, 0, 5));
            if (c == 9) {
                isBlank(x, 9, 0);
                spanIs(x, END, 0, 3, "3", 0);
            } else {
                nothingCame(x, 9);
                isBlank(x, END, 0);
            }
            nothingCame(x, 1, 8);
        }
    }

    /** To go on with a STEP behind the last one is to END, till there is such a STEP. */
    private static void eachStepBehindTheLast() {
        WordWright x = ready();
        steps(x, go(2));
        isBlank(x, 1, 0);
        isBlank(x, END, 0);
        x.step(ANY, 0, 5, 0);
        isBlank(x, END, 0);
        isBlank(x, 2, 0);
        nothingCame(x, 1);
        x.step(ANY, 0, 4, 0);
        isBlank(x, 2, 0);
        nothingCame(x, 1);
        spanIs(x, END, 0, 3, "2", 0);
    }

    /** "a STEP of which a SPAN would be NONE at all passes on nothing" */
    private static void anyOfNone() {
        WordWright x = ready();
        steps(x, step(ANY, 2, 0), step(SINK, 0, 0));
        isBlank(x, 0, 2);
        nothingCame(x, 1, 2, 10);
        Check.due(x, 1, "many 8");
        Check.due(x, 0, "bad 1");
        Check.due(x, 0, "many 9");
        steps(x, step(ANY, 2, 1), step(SINK, 0, 6));
        isAll(x, 1, 2);
        isAll(x, END, 2);
        steps(x, step(ANY, 2, 6), step(SINK, 0, 6));
        isBlank(x, END, 2);
    }

    /** "1 COPY a b: it is what the STRING b is. 2 ADD a b: the STRING b comes behind what it is." */
    private static void copyAndAddOfItself() {
        WordWright x = ready();
        steps(x, step(ANY, 0, 2), step(COPY, 0, 0), step(ADD, 0, 0), step(ADD, 0, 1), step(ADD, 1, 0), step(COPY, 2, 0),
            step(COPY, 0, 1));
        isZeros(x, 2, 0, 1, 1);
        isZeros(x, 3, 0, 2, 2);
        isZeros(x, 4, 0, 2, 2);
        isZeros(x, 5, 1, 2, 2);
        isZeros(x, 6, 2, 2, 2);
        isZeros(x, END, 0, 2, 2);
        int zeroOrOne = x.make(5, 2, 3);
        // What a STRING is behind itself need not be the same WORD twice.
        steps(x, step(ANY, 0, zeroOrOne), step(ADD, 0, 0), step(SINK, 0, x.make(5, x.make(4, 2, 2), x.make(4, 3, 3))));
        Check.due(x, Check.word("01"), "bad 2");
    }

    /** "3 PASS a b: it is something that the MACHINE b writes for it (what has nothing ends there)" */
    private static void passWithoutAnything() {
        WordWright x = ready();
        steps(x, step(PASS, 0, 0));
        nothingCame(x, END);
        x.finals(0, 1);
        isBlank(x, END, 0);
        steps(x, step(ANY, 0, 2), step(PASS, 0, 0));
        nothingCame(x, END);
        x.arc(0, 0, 0, 0, -1);
        isBlank(x, END, 0);
        steps(x, step(ANY, 0, x.make(5, 2, 3)), step(PASS, 0, 0));
        isBlank(x, END, 0);
        steps(x, step(ANY, 0, 3), step(PASS, 0, 0));
        nothingCame(x, END);
        x.finals(0, 0);
        nothingCame(x, END);
    }

    /** "to c, if the SPAN of a and b have a WORD in common, that, and to the next one, if the SPAN of a WITHOUT b has one" */
    private static void ifWithNoneAndAll() {
        WordWright x = ready();
        int[] languages = {0, 1, 2, 6};
        boolean[] isIn = {false, true, false, true};
        for (int i = 0; i < languages.length; i++) {
            steps(x, when(0, languages[i], 2), step(SINK, 0, 6), step(SINK, 0, 6));
            if (isIn[i]) {
                nothingCame(x, 1);
                Check.due(x, 2, "many 8");
            } else {
                isBlank(x, 1, 0);
            }
            isBlank(x, 2, 0);
            isBlank(x, END, 0);
        }
        steps(x, when(0, 0, 0));
        isBlank(x, END, 0);
        steps(x, when(0, 1, 0));
        nothingCame(x, END);
        Check.due(x, 1, "many 8");
    }

    /** Both at once, each with its part of the SPAN of a, and with the others as they are. */
    private static void ifInBothWays() {
        WordWright x = ready();
        int zeros = x.make(8, 2, 0);
        steps(x, step(ANY, 2, 5), step(ANY, 1, 1), when(1, zeros, END), step(SINK, 1, zeros), go(4));
        spanIs(x, 3, 1, 2, "1", 1);
        spanIs(x, END, 1, 2, "", 1);
        for (int step : new int[] {3, 4, END}) {
            spanIs(x, step, 2, 3, "3", 0);
            isBlank(x, step, 0);
        }
        Check.due(x, 5, "bad 3");
        // Both parts to the same STEP are the whole once more.
        steps(x, step(ANY, 1, 1), when(1, zeros, 2));
        isAll(x, END, 1);
    }

    /** "5 GO c: likewise, in any case": with the STEP c, 0 to 10. */
    private static void goToEachEnd() {
        WordWright x = ready();
        for (int c = 0; c <= 10; c++) {
            steps(x, go(c), step(ANY, 0, 2), go(9));
            if (c == 0) {
                nothingCame(x, 1, 2, END);
                Check.due(x, 1, "many 8");
            } else if (c == 1) {
                isZeros(x, 2, 0, 1, 1);
                isZeros(x, END, 0, 1, 1);
            } else {
                nothingCame(x, 1);
                isBlank(x, END, 0);
                Check.due(x, 2, "many 8");
            }
        }
    }

    /** "SINK passes on all as it is": also if it is BAD. */
    private static void sinkPassesOnAll() {
        WordWright x = ready();
        steps(x, step(ANY, 0, 1), step(SINK, 0, 0), step(SINK, 0, 6), step(SINK, 0, 1), step(SINK, 2, 6));
        for (int step = 1; step <= 5; step++) {
            isAll(x, step, 0);
            isBlank(x, step, 1);
        }
        int[] due = {0, 1, 4, 0, 0};
        for (int step = 0; step < due.length; step++) {
            Check.due(x, due[step], "bad " + step);
        }
    }

    /** "What comes to a STEP to which something came: STRING by STRING OR of both." */
    private static void orStringByString() {
        WordWright x = ready();
        int bits = x.make(5, 2, 3);
        steps(x, step(ANY, 0, bits), when(0, 2, 4), step(ANY, 1, 2), go(5), step(ANY, 1, 3), step(SINK, 1, bits));
        // 0 with 1, or 1 with 0: but STRING by STRING each of 0 and 1.
        for (int string = 0; string < 2; string++) {
            spanIs(x, 5, string, 3, "0", 0);
        }
        isBlank(x, 5, 2);
        steps(x, step(ANY, 0, bits), when(0, 2, 4), step(ADD, 0, 0), go(5), step(ADD, 0, 0), step(SINK, 0, bits));
        spanIs(x, 5, 0, 5, "00", 0);
        Check.due(x, Check.word("00"), "bad 5");
    }

    /** "Each that would have more than 10 STATES (as it is passed on ..) is ALL": ADD, with 10 and with 11. */
    private static void tenStatesByJoined() {
        WordWright x = ready();
        int four = Check.single(x, "0123");
        int five = Check.single(x, "01230");
        steps(x, step(ANY, 0, four), step(COPY, 1, 0), step(ADD, 0, 1), step(SINK, 0, 0));
        spanIs(x, 3, 0, 10, "01230123", 0);
        steps(x, step(ANY, 0, four), step(ANY, 1, five), step(ADD, 0, 1), step(SINK, 0, 0));
        isAll(x, 3, 0);
        spanIs(x, 3, 1, 7, "01230", 0);
        Check.due(x, 1, "bad 3");
    }

    private static void addArcs(WordWright x, int machine, int finals, int[][] arcs) {
        for (int[] a : arcs) {
            x.arc(machine, a[0], a[1], a[2], a[3]);
        }
        x.finals(machine, finals);
    }

    /** The same of PASS; and of more than 300 SETS. */
    private static void tenStatesByOut() {
        WordWright x = ready();
        int notSo = x.make(4, 1, 3);
        addArcs(x, 0, 5, new int[][] {{0, 0, 2, 0}, {0, 0, 2, 1}, {1, 1, 3, 1}, {2, 1, 2, 1}, {3, 1, 3, 0}, {0, 0, 3, 1},
            {0, 0, 1, 1}, {3, 0, 0, 1}});
        steps(x, step(ANY, 0, notSo), step(PASS, 0, 0));
        Check.due(x, 1, "span 10 0 0");
        Check.due(x, 10, "span 10 0 1");
        x.machine();
        addArcs(x, 1, 4, new int[][] {{3, 0, 1, 0}, {0, 0, 3, 0}, {2, 0, 0, 0}, {2, 0, 0, -1}, {1, 0, 2, 0}, {2, 0, 2, -1}});
        steps(x, step(ANY, 0, 1), step(PASS, 0, 1));
        isAll(x, END, 0);
        // Without FINAL STATES nothing is written, but more than 300 SETS are too many STATES all the same.
        WordWright y = Check.lettered();
        int[][] made = {{4, 2, 1}, {4, 6, 2}, {4, 7, 6}, {8, 2, 0}, {4, 8, 8}};
        for (int[] m : made) {
            y.make(m[0], m[1], m[2]);
        }
        y.machine();
        addArcs(y, 0, 0, new int[][] {{1, 0, 0, 1}, {3, 1, 1, 0}, {3, 1, 3, 1}, {0, 0, 1, 1}, {1, 0, 2, 0}, {3, 0, 3, 1},
            {2, 0, 0, 1}, {2, 0, 3, 0}, {1, 1, 3, 1}, {1, 1, 0, 0}});
        steps(y, step(ANY, 0, 10), step(PASS, 0, 0));
        isAll(y, END, 0);
        steps(y, step(ANY, 0, 9), step(PASS, 0, 0));
        nothingCame(y, END);
    }

    /** All WORDS in which a LETTER (a LANGUAGE of just that) stands n times, or 2n, and so on, or not at all. */
    private static int everyNth(WordWright x, int letter, int n) {
        int others = x.make(8, x.make(7, x.make(5, x.make(5, 2, 3), x.make(5, 4, 5)), letter), 0);
        int turn = others;
        for (int i = 0; i < n; i++) {
            turn = x.make(4, x.make(4, turn, letter), others);
        }
        return x.make(5, x.make(8, turn, 0), others);
    }

    /** The same of what an IF has in common with b. */
    private static void tenStatesByBoth() {
        WordWright x = ready();
        int evenZeros = everyNth(x, 2, 2);
        int fiveOnes = everyNth(x, 3, 5);
        steps(x, step(ANY, 0, evenZeros), when(0, fiveOnes, 3), go(2), step(SINK, 0, evenZeros));
        spanIs(x, 3, 0, 10, "", 1);
        Check.due(x, 0, "bad 3");
        int twos = x.make(8, Check.single(x, "00"), 0);
        int fives = x.make(8, Check.single(x, "00000"), 0);
        steps(x, step(ANY, 0, twos), when(0, fives, 3), go(2), step(SINK, 0, twos));
        isAll(x, 3, 0);
        Check.due(x, 4, "bad 3");
    }

    /** The same of what goes on to the next one. */
    private static void tenStatesByWithout() {
        WordWright x = ready();
        int evenZeros = everyNth(x, 2, 2);
        int fiveOnes = everyNth(x, 3, 5);
        steps(x, step(ANY, 0, evenZeros), when(0, fiveOnes, 3), step(SINK, 0, fiveOnes), go(3));
        spanIs(x, 2, 0, 10, "1", 1);
        int twos = x.make(8, Check.single(x, "00"), 0);
        int notFives = x.make(7, 1, x.make(8, Check.single(x, "00000"), 0));
        steps(x, step(ANY, 0, twos), when(0, notFives, 3), step(SINK, 0, twos), go(3));
        isAll(x, 2, 0);
        Check.due(x, 4, "bad 2");
    }

    /** "or by OR": of two ways that come together. */
    private static void tenStatesByOr() {
        for (int ones = 4; ones <= 5; ones++) {
            WordWright x = ready();
            int zero = Check.single(x, "00000");
            int one = Check.single(x, "1".repeat(ones));
            steps(x, step(ANY, 1, x.make(5, 2, 3)), when(1, 2, 4), step(ANY, 0, zero), go(5), step(ANY, 0, one),
                step(SINK, 0, zero));
            if (ones == 4) {
                spanIs(x, 5, 0, 10, "1111", 0);
                Check.due(x, Check.word("1111"), "bad 5");
            } else {
                isAll(x, 5, 0);
                Check.due(x, 1, "bad 5");
            }
            Check.due(x, 2, "many 8");
        }
    }

    /** "the one that changes nothing counts as a ROUND" */
    private static void roundThatChangesNothingCounts() {
        WordWright x = ready();
        Check.due(x, 0, "many 8");
        steps(x, step(ANY, 0, 0));
        Check.due(x, 1, "many 8");
        steps(x, go(0));
        Check.due(x, 1, "many 8");
        steps(x, step(ANY, 0, 2));
        Check.due(x, 2, "many 8");
        steps(x, step(ANY, 0, 2), go(0));
        Check.due(x, 2, "many 8");
        steps(x, when(0, 6, END));
        Check.due(x, 2, "many 8");
        steps(x, when(0, 2, END));
        Check.due(x, 2, "many 8");
        steps(x, step(SINK, 0, 2), go(2), step(ANY, 0, 2), go(1));
        Check.due(x, 3, "many 8");
    }

    /** "What came in a ROUND counts already in it" */
    private static void whatCameCountsAlready() {
        WordWright x = ready();
        steps(x, step(SINK, 0, 0), step(SINK, 0, 0), step(SINK, 0, 0), step(SINK, 0, 0), step(SINK, 0, 0), step(SINK, 0, 0),
            step(SINK, 0, 0), step(SINK, 0, 0), step(SINK, 0, 0), step(SINK, 0, 0));
        Check.due(x, 2, "many 8");
        Check.due(x, 10, "many 9");
        // Backwards it counts in the next one: from 0 to 4, 3, 2, 1, and to the END.
        steps(x, go(4), go(5), go(1), go(2), go(3));
        isBlank(x, END, 0);
        Check.due(x, 5, "many 8");
    }

    /** It adds a 0 each time, till there are so many of them. */
    private static WordWright counting(int bound) {
        WordWright x = ready();
        int zeros = Check.single(x, "0".repeat(bound));
        steps(x, step(ANY, 1, 2), when(0, zeros, 4), step(ADD, 0, 1), go(1), step(SINK, 0, zeros));
        return x;
    }

    /** "so is each that is another one by OR than before in the 6th ROUND or later": in the 5th it is not. */
    private static void fifthRoundIsAsItIs() {
        for (int bound = 1; bound <= 5; bound++) {
            WordWright x = counting(bound);
            isZeros(x, 1, 0, 0, bound);
            spanIs(x, 2, 0, bound + 1, "", 0);
            isZeros(x, 3, 0, 1, bound);
            isZeros(x, 4, 0, bound, bound);
            isZeros(x, END, 0, bound, bound);
            Check.due(x, bound + 2, "many 8");
            Check.due(x, 0, "bad 4");
        }
    }

    /** In the 6th it is: what comes to the STEPS 1 to 3 is another one then. */
    private static void sixthRoundIsAll() {
        for (int bound = 6; bound <= 8; bound++) {
            WordWright x = counting(bound);
            for (int step = 1; step <= 3; step++) {
                isAll(x, step, 0);
                isZeros(x, step, 1, 1, 1);
                isBlank(x, step, 2);
            }
            Check.due(x, 8, "many 8");
        }
        WordWright y = ready();
        steps(y, step(ANY, 1, 2), step(ADD, 0, 1), go(1));
        isAll(y, 1, 0);
        isAll(y, 2, 0);
        nothingCame(y, END);
        Check.due(y, 7, "many 8");
    }

    /** "(what comes first is as it comes)": in the 6th ROUND, and in the 7th. */
    private static void firstInTheSixthRoundOrLater() {
        for (int bound = 5; bound <= 8; bound++) {
            WordWright x = counting(bound);
            isZeros(x, 4, 0, bound, bound);
            isZeros(x, END, 0, bound, bound);
            Check.due(x, 0, "bad 4");
        }
    }

    /** Each STRING by itself: what is the same by OR stays, also in a ROUND in which another one is ALL. */
    private static void onlyTheStringThatIsAnother() {
        WordWright x = ready();
        steps(x, step(ANY, 1, 2), step(ANY, 2, 5), step(ADD, 0, 1), go(2));
        isAll(x, 2, 0);
        isZeros(x, 2, 1, 1, 1);
        spanIs(x, 2, 2, 3, "3", 0);
        isAll(x, 3, 0);
        isZeros(x, 3, 1, 1, 1);
        spanIs(x, 3, 2, 3, "3", 0);
    }

    /** "SPANS are no LANGUAGES with numbers." */
    private static void spansAreNoLanguages() {
        WordWright x = ready();
        int before = x.many(0);
        steps(x, step(ANY, 0, 2), step(ADD, 0, 0), step(ADD, 0, 0), when(0, 3, 0));
        isZeros(x, END, 0, 4, 4);
        Check.due(x, before, "many 0");
        WordWright full = Story.full().told();
        full.clear();
        steps(full, step(ANY, 0, 2), step(ADD, 0, 0), step(ADD, 0, 0));
        isZeros(full, END, 0, 4, 4);
        Check.due(full, 40, "many 0");
    }

    /** "Takes all STEPS away."; "how many there were" */
    private static void promise28NoneAndTen() {
        WordWright x = Story.full().told();
        Check.due(x, 10, "clear");
        Check.due(x, 0, "clear");
        Check.due(x, 0, "many 7");
        nothingCame(x, 0, 10);
        for (int s = 0; s < 10; s++) {
            Check.due(x, s, "step 6 0 0 0");
        }
        Check.due(x, 10, "clear");
    }

    /** "0 1 if something came there, otherwise 0; and, if something did (otherwise 0): 1 its SIZE, 2 .. 3 .." */
    private static void promise29WhatZeroToThree() {
        WordWright x = ready();
        steps(x, go(2), step(ANY, 0, 5), step(ANY, 0, 1));
        nothingCame(x, 1);
        isBlank(x, 0, 2);
        isAll(x, 3, 0);
        Check.due(x, "throws IllegalArgumentException", "span 0 0 4");
        Check.due(x, "throws IllegalArgumentException", "span 0 0 -1");
        Check.due(x, "throws IndexOutOfBoundsException", "span 0 3 0");
        Check.due(x, "throws IndexOutOfBoundsException", "span -1 0 0");
        // The least WORD of a SPAN has nine LETTERS at most.
        WordWright y = Check.lettered();
        int any = y.make(5, y.make(5, 2, 3), y.make(5, 4, 5));
        int long9 = 1;
        for (int i = 0; i < 9; i++) {
            long9 = y.make(4, long9, any);
        }
        steps(y, step(ANY, 0, long9));
        spanIs(y, END, 0, 10, "000000000", 1);
    }

    /** "0, if it is no SINK, or not BAD"; "if something came to it" */
    private static void promise30BadOrNot() {
        WordWright x = ready();
        steps(x, step(ANY, 0, 2), step(COPY, 1, 0), step(ADD, 2, 0), when(0, 3, 0), go(6), step(SINK, 0, 0), step(SINK, 0, 2),
            step(SINK, 0, 3), step(SINK, 0, 0), step(SINK, 2, 6));
        int[] due = {0, 0, 0, 0, 0, 0, 0, 4, 4, 4};
        for (int step = 0; step < due.length; step++) {
            Check.due(x, due[step], "bad " + step);
        }
        Check.due(x, 3, "many 9");
        steps(x, step(SINK, 2, 0));
        Check.due(x, 1, "bad 0");
        Check.due(x, 1, "many 9");
        steps(x, step(SINK, 2, 6));
        Check.due(x, 0, "bad 0");
        Check.due(x, 0, "many 9");
    }

    /** "(NONE, if that has more than 10 LETTERS)": 9, 10 and 11 of them. */
    private static void promise30TenLetters() {
        WordWright x = ready();
        int four = Check.single(x, "3333");
        int fours = x.make(8, four, 0);
        for (int n = 5; n <= 7; n++) {
            int more = x.make(4, four, x.make(8, Check.single(x, "3".repeat(n)), 0));
            steps(x, step(ANY, 0, more), step(SINK, 0, fours));
            Check.due(x, n < 7 ? Check.word("3".repeat(4 + n)) : -1, "bad 1");
            Check.due(x, 1, "many 9");
        }
    }

    /** "what: 0 LANGUAGES, 1 MACHINES, .. 9 SINKS that are BAD": as few, and as many, as there can be. */
    private static void promise31EachAtItsEnds() {
        WordWright x = new WordWright();
        int[] few = {2, 0, 0, 0, 0, 0, 0, 0, 0, 0};
        WordWright full = Story.full().told();
        full.clear();
        for (int s = 0; s < 10; s++) {
            full.step(SINK, 0, 0, 0);
        }
        int[] many = {40, 6, 60, 4, 48, 4, 30, 10, 2, 10};
        for (int what = 0; what <= 9; what++) {
            Check.due(x, few[what], "many " + what);
            Check.due(full, many[what], "many " + what);
        }
        Check.due(x, "throws IllegalArgumentException", "many 10");
        Check.due(x, "throws IllegalArgumentException", "many -1");
        // The SYMBOLS of an EQUATION that is taken away, and the NODES of an old DOCUMENT, are none.
        full.undo();
        full.node(-1, 0);
        Check.due(full, 36, "many 4");
        Check.due(full, 1, "many 6");
    }
}
