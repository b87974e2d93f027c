/** Promises 1 to 7, 32 and 33, and the part 1 of the Terms: each sentence that names a boundary, for LANGUAGES. */
public final class LanguageBoundsTest {
    private static final Class<IllegalStateException> STATE = IllegalStateException.class;
    private static final Class<ArithmeticException> ARITHMETIC = ArithmeticException.class;

    public static void main(String[] args) {
        wordsHaveTenLettersAtMost();
        wordsAreInOrderAsTheirNumbers();
        languagesZeroAndOneAreThere();
        fortyLanguagesAtMost();
        noneComesTwice();
        oneStateToGoOnToByEachLetter();
        tenStatesAtMost();
        asManyStatesOnTheWayAsThereCanBe();
        statesAreNumberedAsOneComesToThem();
        joinedWithNoneBlankAndAll();
        setsOfNoneAndAll();
        starHasNoneToo();
        turnedAtItsEnds();
        headsHaveAllAndNone();
        machinesWithoutArcsOrFinals();
        outGoesOnWithoutWriting();
        outGoesOnWithoutWritingForLong();
        intoGoesOnWithoutWriting();
        readNeedsAFinalState();
        threeHundredSetsAtMost();
        promise3Empty();
        promise3Longest();
        promise3Least();
        promise3Letters();
        promise4EachState();
        promise6LeastAndMostLetters();
        promise7TenLetters();
        promise7NothingAndBlank();
        promise32NotCut();
        promise33WithForty();
        promise33TooMany();
        Check.end("LanguageBoundsTest");
    }

    /** "it has 10 LETTERS at most"; "so 1 is the BLANK one, 4 to 7 have one LETTER" */
    private static void wordsHaveTenLettersAtMost() {
        for (int letters = 0; letters <= 10; letters++) {
            int least = 1 << 2 * letters;
            Story story = Story.empty();
            Check.allowed(story, "has 1 " + least, "has 1 " + (2 * least - 1));
            Check.refused(story, IllegalArgumentException.class, "has 1 " + (least - 1), "has 1 " + 2 * least);
        }
        WordWright x = Check.lettered();
        int threes = x.make(8, 5, 0);
        Check.due(x, true, "has " + threes + " 1");
        Check.due(x, true, "has " + threes + " 7");
        Check.due(x, false, "has " + threes + " 4");
        Check.due(x, true, "has " + threes + " 2097151");
        Check.due(x, false, "has " + threes + " 1048576");
        Check.due(x, true, "has " + x.make(8, 2, 0) + " 1048576");
    }

    /** "WORDS are in order as these numbers are (shorter ones first)" */
    private static void wordsAreInOrderAsTheirNumbers() {
        WordWright x = Check.lettered();
        int shorter = x.make(5, Check.single(x, "00"), 5);
        int first = x.make(5, Check.single(x, "10"), Check.single(x, "03"));
        int last = x.make(5, Check.single(x, "13"), Check.single(x, "12"));
        Check.due(x, 7, "beyond " + shorter + " 0");
        Check.due(x, Check.word("03"), "beyond " + first + " 0");
        Check.due(x, Check.word("12"), "beyond " + last + " 0");
        Check.due(x, Check.word("12"), "ofLanguage " + last + " 2");
    }

    /** "The LANGUAGES 0 and 1 are there from the first: NONE at all, and ALL." */
    private static void languagesZeroAndOneAreThere() {
        WordWright x = new WordWright();
        Check.due(x, 2, "many 0");
        Check.due(x, false, "has 0 1");
        Check.due(x, false, "has 0 2097151");
        Check.due(x, true, "has 1 1");
        Check.due(x, true, "has 1 2097151");
        Check.due(x, 0, "make 0 0 0");
        Check.due(x, 1, "make 3 0 0");
        Check.due(x, 2, "make 1 0 0");
    }

    /** "numbered from 0 as they come, 40 at most"; "or, if it is not there already, there are 40" */
    private static void fortyLanguagesAtMost() {
        WordWright x = Check.lettered();
        for (int i = 0; i < 33; i++) {
            Check.due(x, 6 + i, "make 4 " + (2 + i % 4) + " " + (2 + i / 4));
        }
        Check.due(x, 39, "many 0");
        Check.due(x, 39, "make 1 0 0");
        Check.due(x, "throws IllegalStateException", "make 8 2 0");
        Check.due(x, 40, "many 0");
        Check.due(x, 39, "make 8 0 0");
        Check.due(x, 38, "make 5 38 38");
        Check.due(x, 6, "make 9 6 0");
        Check.due(x, 0, "make 7 0 0");
        Check.due(x, 1, "make 7 1 0");
        Check.due(x, 2, "ofLanguage 39 0");
        Check.due(x, "throws IndexOutOfBoundsException", "ofLanguage 40 0");
    }

    /** "none comes twice: what is made and is there already has the number that it has" */
    private static void noneComesTwice() {
        WordWright x = Check.lettered();
        Check.due(x, 2, "make 2 0 0");
        Check.due(x, 5, "make 2 3 0");
        Check.due(x, 6, "make 4 2 3");
        Check.due(x, 7, "make 4 3 2");
        Check.due(x, 7, "make 9 6 0");
        Check.due(x, 6, "make 9 7 0");
        Check.due(x, 6, "make 5 6 6");
        Check.due(x, 6, "make 6 1 6");
        Check.due(x, 0, "make 7 6 6");
        Check.due(x, 1, "make 8 1 0");
        Check.due(x, 8, "make 8 6 0");
        Check.due(x, 8, "make 8 8 0");
        Check.due(x, 9, "many 0");
    }

    /** "how many STATES the smallest one has (that has exactly one STATE to go on to by each LETTER)" */
    private static void oneStateToGoOnToByEachLetter() {
        WordWright x = new WordWright();
        Check.due(x, 1, "ofLanguage 0 0");
        Check.due(x, 1, "ofLanguage 1 0");
        Check.due(x, 2, "wouldSize 1 0 0");
        Check.due(x, 3, "wouldSize 2 0 0");
        x.make(2, 0, 0);
        Check.due(x, 2, "wouldSize 8 2 0");
        Check.due(x, 3, "wouldSize 4 2 1");
        Check.due(x, 2, "wouldSize 4 1 2");
        Check.due(x, 3, "wouldSize 7 1 2");
    }

    /** What has 10 STATES is MADE, what would have 11 is not. */
    private static void tenAndEleven(WordWright x, String ten, String eleven) {
        Check.due(x, 10, "wouldSize " + ten);
        Check.due(x, x.many(0), "make " + ten);
        Check.due(x, 10, "ofLanguage LANGUAGES-1 0");
        Check.due(x, 0, "wouldSize " + eleven);
        long before = x.digest();
        Check.due(x, "throws " + STATE.getSimpleName(), "make " + eleven);
        Check.due(x, before, "digest");
    }

    /** "10 at most"; "What would have more than 10 STATES is not MADE." */
    private static void tenStatesAtMost() {
        WordWright x = Check.lettered();
        int seven = Check.single(x, "0123012");
        int eight = Check.single(x, "01230123");
        tenAndEleven(x, "4 " + seven + " 2", "4 " + eight + " 2");
        tenAndEleven(x, "4 2 " + seven, "4 2 " + eight);
        tenAndEleven(x, "5 " + Check.single(x, "00000") + " " + Check.single(x, "1111"),
            "5 " + Check.single(x, "00000") + " " + Check.single(x, "11111"));
        tenStatesOfBothAndWithout();
        WordWright y = Check.lettered();
        int few = y.make(5, Check.single(y, "111"), Check.single(y, "11111"));
        int more = y.make(5, y.make(5, Check.single(y, "0000"), 3), Check.single(y, "110"));
        tenAndEleven(y, "8 " + few + " 0", "8 " + more + " 0");
        WordWright z = Check.lettered();
        int two = z.make(5, z.make(5, Check.single(z, "01010"), Check.single(z, "001100")), Check.single(z, "100"));
        int three = z.make(5, z.make(5, Check.single(z, "101101"), Check.single(z, "100")), Check.single(z, "1100"));
        tenAndEleven(z, "9 " + two + " 0", "9 " + three + " 0");
        // HEADS have no more STATES than those of which they are.
        Check.due(z, 10, "wouldSize 10 " + Check.single(z, "33333333") + " 0");
        tenStatesByMachines();
    }

    /** An even number of 0, and a number of 1 that is 5, 10 .. : ten STATES; of 0 in a row by two, and by five: eleven. */
    private static void tenStatesOfBothAndWithout() {
        for (int kind = 6; kind <= 7; kind++) {
            WordWright x = Check.lettered();
            int evenZeros = everyNth(x, 2, 2);
            int fiveOnes = everyNth(x, 3, 5);
            int twos = x.make(8, Check.single(x, "00"), 0);
            int fives = x.make(8, Check.single(x, "00000"), 0);
            if (kind == 7) {
                fiveOnes = x.make(7, 1, fiveOnes);
                fives = x.make(7, 1, fives);
            }
            tenAndEleven(x, kind + " " + evenZeros + " " + fiveOnes, kind + " " + twos + " " + fives);
        }
    }

    /** All WORDS in which a LETTER (a LANGUAGE of just that) stands n times, or 2n, and so on, or not at all. */
    private static int everyNth(WordWright x, int letter, int n) {
        int others = x.make(8, x.make(7, x.make(5, x.make(5, 2, 3), x.make(5, 4, 5)), letter), 0);
        int turn = others;
        for (int i = 0; i < n; i++) {
            turn = x.make(4, x.make(4, turn, letter), others);
        }
        return x.make(5, x.make(8, turn, 0), others);
    }

    private static void addArcs(WordWright x, int finals, int[][] arcs) {
        int m = x.machine();
        for (int[] a : arcs) {
            x.arc(m, a[0], a[1], a[2], a[3]);
        }
        x.finals(m, finals);
    }

    private static void tenStatesByMachines() {
        WordWright x = Check.lettered();
        int notSo = x.make(4, 1, 3);
        addArcs(x, 5, new int[][] {{0, 0, 2, 0}, {0, 0, 2, 1}, {1, 1, 3, 1}, {2, 1, 2, 1}, {3, 1, 3, 0}, {0, 0, 3, 1},
            {0, 0, 1, 1}, {3, 0, 0, 1}});
        addArcs(x, 4, new int[][] {{3, 0, 1, 0}, {0, 0, 3, 0}, {2, 0, 0, 0}, {2, 0, 0, -1}, {1, 0, 2, 0}, {2, 0, 2, -1}});
        tenAndEleven(x, "11 0 " + notSo, "11 1 1");
        addArcs(x, 9, new int[][] {{3, 0, 1, -1}, {3, 0, 0, 0}, {0, 0, 2, -1}, {2, 0, 3, -1}, {2, 0, 3, 0}});
        addArcs(x, 3, new int[][] {{0, 0, 2, -1}, {3, 0, 3, 0}, {2, 0, 2, 0}, {3, 0, 0, 0}, {1, 0, 0, 0}, {2, 0, 1, 0},
            {1, 0, 0, -1}});
        tenAndEleven(x, "12 2 " + Check.single(x, "00"), "12 3 " + x.make(12, 3, 2));
        addArcs(x, 4, new int[][] {{1, 1, 3, 1}, {3, 0, 2, 1}, {1, 0, 3, 0}, {3, 1, 1, 1}, {2, 0, 0, 1}, {2, 0, 2, -1},
            {0, 0, 1, 1}});
        addArcs(x, 4, new int[][] {{1, 0, 3, 0}, {2, 0, 0, 0}, {3, 0, 2, 0}, {2, 0, 1, 0}, {0, 0, 1, 0}});
        tenAndEleven(x, "13 4 0", "13 5 0");
    }

    /**
     * On the way to what is JOINED there can be some 10 times 1000 STATES: with each STATE of what has a number of LETTERS
     * that is 10, 20 .. , nearly each set of those of b, whose LETTERS turn its ten STATES round.
     */
    private static void asManyStatesOnTheWayAsThereCanBe() {
        WordWright x = Check.lettered();
        int any = x.make(5, x.make(5, 2, 3), x.make(5, 4, 5));
        int two = x.make(4, any, any);
        int five = x.make(4, x.make(4, two, two), any);
        int tens = x.make(6, x.make(8, two, 0), x.make(8, five, 0));
        int round = x.make(6, everyNth(x, 2, 2), everyNth(x, 3, 5));
        Check.due(x, 10, "ofLanguage " + tens + " 0");
        Check.due(x, 10, "ofLanguage " + round + " 0");
        Check.due(x, 0, "wouldSize 4 " + tens + " " + round);
        Check.due(x, "throws IllegalStateException", "make 4 " + tens + " " + round);
        Check.due(x, 10, "wouldSize 8 " + tens + " 0");
        Check.due(x, 10, "wouldSize 8 " + round + " 0");
    }

    /** "0 is where it begins, then, STATE by STATE, those to which one comes by the LETTERS 0 to 3" */
    private static void statesAreNumberedAsOneComesToThem() {
        WordWright x = Check.lettered();
        // By 0 to 3 from the first STATE there are four others; then, from the first of these, the end.
        int four = x.make(5, x.make(5, Check.single(x, "00"), Check.single(x, "111")), Check.single(x, "2222"));
        int[] due = {1, 2, 3, 4, 5, 4, 4, 4};
        for (int i = 0; i < due.length; i++) {
            Check.due(x, due[i], "next " + four + " " + i / 4 + " " + i % 4);
        }
        // The last STATE of ten: that from which there is no WORD comes second.
        int eight = Check.single(x, "33333333");
        Check.due(x, 1, "next " + eight + " 0 0");
        Check.due(x, 2, "next " + eight + " 0 3");
        Check.due(x, 9, "next " + eight + " 8 3");
        Check.due(x, 1, "next " + eight + " 9 3");
        Check.due(x, 1 << 9, "ofLanguage " + eight + " 1");
    }

    /** "4 JOINED: one of the LANGUAGE a, then one of b", at the ends of what there is. */
    private static void joinedWithNoneBlankAndAll() {
        WordWright x = Check.lettered();
        int blank = x.make(1, 0, 0);
        int word = Check.single(x, "12");
        for (int l : new int[] {0, 1, blank, word}) {
            Check.due(x, 0, "make 4 0 " + l);
            Check.due(x, 0, "make 4 " + l + " 0");
            Check.due(x, l, "make 4 " + blank + " " + l);
            Check.due(x, l, "make 4 " + l + " " + blank);
        }
        Check.due(x, 1, "make 4 1 1");
        int behind = x.make(4, 1, word);
        Check.due(x, Check.word("12"), "ofLanguage " + behind + " 2");
        Check.due(x, behind, "make 4 1 " + behind);
    }

    /** "5 of a OR b; 6 of BOTH; 7 of a WITHOUT b", with NONE at all, ALL, and the same. */
    private static void setsOfNoneAndAll() {
        WordWright x = Check.lettered();
        int word = Check.single(x, "12");
        for (int l : new int[] {0, 1, x.make(1, 0, 0), word}) {
            Check.due(x, l, "make 5 0 " + l);
            Check.due(x, 1, "make 5 " + l + " 1");
            Check.due(x, l, "make 5 " + l + " " + l);
            Check.due(x, 0, "make 6 " + l + " 0");
            Check.due(x, l, "make 6 1 " + l);
            Check.due(x, l, "make 6 " + l + " " + l);
            Check.due(x, l, "make 7 " + l + " 0");
            Check.due(x, 0, "make 7 0 " + l);
            Check.due(x, 0, "make 7 " + l + " 1");
            Check.due(x, 0, "make 7 " + l + " " + l);
        }
    }

    /** "8 STAR: any number of those of a, one behind the other (none, too)" */
    private static void starHasNoneToo() {
        WordWright x = Check.lettered();
        int blank = x.make(1, 0, 0);
        Check.due(x, blank, "make 8 0 0");
        Check.due(x, blank, "make 8 " + blank + " 0");
        Check.due(x, 1, "make 8 1 0");
        int star = x.make(8, 2, 0);
        Check.due(x, true, "has " + star + " 1");
        Check.due(x, true, "has " + star + " 4");
        Check.due(x, true, "has " + star + " 1048576");
        Check.due(x, false, "has " + star + " 5");
        // A STAR of what comes back to its beginning, where it is not, has the BLANK one all the same.
        int odd = x.make(4, 2, x.make(8, Check.single(x, "00"), 0));
        Check.due(x, star, "make 8 " + odd + " 0");
    }

    /** "9 TURNED: those of a, from the last LETTER to the first one" */
    private static void turnedAtItsEnds() {
        WordWright x = Check.lettered();
        int blank = x.make(1, 0, 0);
        int palindrome = Check.single(x, "01210");
        for (int l : new int[] {0, 1, 2, 5, blank, palindrome}) {
            Check.due(x, l, "make 9 " + l + " 0");
        }
        Check.due(x, Check.single(x, "32100123"), "make 9 " + Check.single(x, "32100123") + " 0");
        Check.due(x, Check.single(x, "31"), "make 9 " + Check.single(x, "13") + " 0");
    }

    /** "10 HEADS of those of a (all, and none, of the WORD with them)" */
    private static void headsHaveAllAndNone() {
        WordWright x = Check.lettered();
        int blank = x.make(1, 0, 0);
        Check.due(x, 0, "make 10 0 0");
        Check.due(x, 1, "make 10 1 0");
        Check.due(x, blank, "make 10 " + blank + " 0");
        int heads = x.make(10, Check.single(x, "12"), 0);
        Check.due(x, true, "has " + heads + " 1");
        Check.due(x, true, "has " + heads + " 5");
        Check.due(x, true, "has " + heads + " " + Check.word("12"));
        Check.due(x, false, "has " + heads + " 6");
        Check.due(x, false, "has " + heads + " " + Check.word("121"));
        Check.due(x, heads, "make 10 " + heads + " 0");
        Check.due(x, 1, "make 10 " + x.make(4, 1, 2) + " 0");
    }

    /** "OUT .. INTO .. from that of both beginnings"; "13 READ": of a MACHINE without ARCS, or without FINAL STATES. */
    private static void machinesWithoutArcsOrFinals() {
        WordWright x = Check.lettered();
        x.machine();
        int blank = x.make(1, 0, 0);
        for (int l : new int[] {0, 1, 2, blank}) {
            Check.due(x, 0, "make 11 0 " + l);
            Check.due(x, 0, "make 12 0 " + l);
        }
        Check.due(x, 0, "make 13 0 0");
        x.finals(0, 14);
        Check.due(x, 0, "make 13 0 0");
        x.finals(0, 1);
        for (int kind = 11; kind <= 12; kind++) {
            Check.due(x, 0, "make " + kind + " 0 0");
            Check.due(x, blank, "make " + kind + " 0 1");
            Check.due(x, 0, "make " + kind + " 0 2");
            Check.due(x, blank, "make " + kind + " 0 " + blank);
        }
        Check.due(x, blank, "make 13 0 0");
        x.finals(0, 0);
        x.arc(0, 0, 0, 0, 0);
        Check.due(x, 0, "make 11 0 1");
        Check.due(x, 0, "make 12 0 1");
        Check.due(x, 0, "make 13 0 0");
    }

    /** "with all to which ARCS lead that write nothing .. and from these on again by such as write nothing" */
    private static void outGoesOnWithoutWriting() {
        WordWright x = Check.lettered();
        int blank = x.make(1, 0, 0);
        addArcs(x, 8, new int[][] {{0, 0, 1, -1}, {1, 1, 2, -1}, {2, 2, 3, -1}, {3, 3, 0, -1}});
        Check.due(x, blank, "make 11 0 1");
        Check.due(x, blank, "make 11 0 " + Check.single(x, "012"));
        Check.due(x, blank, "make 11 0 " + Check.single(x, "0123012"));
        Check.due(x, 0, "make 11 0 " + Check.single(x, "01"));
        Check.due(x, 0, "make 11 0 " + blank);
        // Ahead of what is written, and behind it, there are ARCS that write nothing.
        addArcs(x, 8, new int[][] {{0, 0, 1, -1}, {1, 0, 2, 3}, {2, 0, 3, -1}});
        Check.due(x, 5, "make 11 1 " + Check.single(x, "000"));
        Check.due(x, 0, "make 11 1 " + Check.single(x, "00"));
        Check.due(x, 5, "make 11 1 1");
    }

    /** Round by three STATES of the MACHINE, and ten of the LANGUAGE: what is read has 29 LETTERS at least. */
    private static void outGoesOnWithoutWritingForLong() {
        WordWright x = Check.lettered();
        int any = x.make(5, x.make(5, 2, 3), x.make(5, 4, 5));
        int two = x.make(4, any, any);
        int four = x.make(4, two, two);
        int five = x.make(4, four, any);
        int tens = x.make(6, x.make(8, two, 0), x.make(8, five, 0));
        int nines = x.make(4, x.make(4, tens, four), five);
        Check.due(x, 10, "ofLanguage " + nines + " 0");
        addArcs(x, 4, new int[][] {{0, 3, 1, -1}, {1, 3, 2, -1}, {2, 3, 0, -1}});
        Check.due(x, x.make(1, 0, 0), "make 11 0 " + nines);
        // With a fourth STATE behind, each of 40 PAIRS is there, or each second of them.
        addArcs(x, 8, new int[][] {{0, 3, 1, -1}, {1, 3, 2, -1}, {2, 3, 3, -1}, {3, 3, 0, -1}});
        Check.due(x, 2, "wouldSize 11 1 " + nines);
        Check.due(x, 1, "wouldSize 11 1 " + tens);
    }

    /** "by each LETTER to all to which ARCS lead that read that (the STATE of b goes on by the LETTER that is written, if one is)" */
    private static void intoGoesOnWithoutWriting() {
        WordWright x = Check.lettered();
        int blank = x.make(1, 0, 0);
        addArcs(x, 8, new int[][] {{0, 0, 1, -1}, {1, 0, 2, 3}, {2, 0, 3, -1}, {0, 1, 3, -1}});
        Check.due(x, Check.single(x, "000"), "make 12 0 5");
        Check.due(x, 3, "make 12 0 " + blank);
        Check.due(x, 0, "make 12 0 2");
        Check.due(x, 0, "make 12 0 0");
        Check.due(x, x.make(5, 3, Check.single(x, "000")), "make 12 0 1");
    }

    /** "13 READ: what the MACHINE a can read, by a way to a FINAL STATE" */
    private static void readNeedsAFinalState() {
        WordWright x = Check.lettered();
        int blank = x.make(1, 0, 0);
        addArcs(x, 1, new int[][] {{0, 0, 1, -1}, {0, 0, 2, 1}, {1, 1, 3, 3}, {3, 3, 3, 3}});
        Check.due(x, blank, "make 13 0 0");
        x.finals(0, 6);
        Check.due(x, 2, "make 13 0 0");
        x.finals(0, 8);
        Check.due(x, x.make(4, Check.single(x, "01"), x.make(8, 5, 0)), "make 13 0 0");
        x.finals(0, 15);
        Check.due(x, x.make(5, blank, x.make(5, 2, x.make(4, Check.single(x, "01"), x.make(8, 5, 0)))), "make 13 0 0");
    }

    /** "If there are more than 300 different SETS (the one without PAIRS is one, too)": 300 with that one, and 301. */
    private static void threeHundredSetsAtMost() {
        setsAreMade(11, "4 1 3|4 6 6|4 6 7|5 8 5|4 9 7|4 3 3|8 0 0", 10,
            "2 0 1 1|1 2 1 0|1 2 1 1|0 1 3 1|3 2 0 1|1 2 3 0|0 3 2 0|2 2 0 0|0 1 0 1|1 3 0 0", true);
        setsAreMade(11, "8 2 0|7 6 2|4 6 3|4 8 7|4 8 9", 10,
            "1 0 1 0|0 0 3 1|0 1 2 0|3 0 3 0|0 0 2 0|1 0 0 0|0 0 0 1|3 1 2 1|2 0 0 1|2 0 1 0", true);
        setsAreMade(11, "4 2 1|4 6 2|4 7 6|8 2 0|4 8 8", 10,
            "1 0 0 1|3 1 1 0|3 1 3 1|0 0 1 1|1 0 2 0|3 0 3 1|2 0 0 1|2 0 3 0|1 1 3 1|1 1 0 0", false);
        setsAreMade(12, "4 2 1|4 6 6|4 7 3|4 8 7", 9,
            "0 0 1 1|1 0 0 1|1 1 0 0|2 0 0 0|3 0 2 1|1 0 3 -1|0 1 3 -1|1 1 1 -1|0 1 2 1|0 1 1 -1", true);
        // To that of both beginnings one comes again here: it is no different one.
        setsAreMade(12, "4 3 3|4 1 2|4 6 7|4 6 6|5 8 9|8 10 0|4 8 9", 12,
            "0 0 2 -1|2 1 0 1|0 1 0 -1|1 1 1 1|2 1 0 1|2 1 2 0|3 1 2 0|2 0 1 1|0 0 2 1|1 0 3 -1", true);
        setsAreMade(12, "4 3 2|4 6 6|5 7 2", 8,
            "0 0 0 1|1 1 1 1|0 2 2 1|3 0 1 0|1 0 1 1|3 2 2 -1|0 2 1 -1|2 0 0 -1|1 2 3 -1|2 2 0 -1", false);
    }

    /** Without FINAL STATES it is NONE at all that is MADE, if there are not too many SETS. */
    private static void setsAreMade(int kind, String languages, int b, String arcs, boolean are) {
        WordWright x = Check.lettered();
        for (String made : languages.split("\\|")) {
            Calls.answer(x, "make " + made);
        }
        x.machine();
        for (String arc : arcs.split("\\|")) {
            Calls.answer(x, "arc 0 " + arc);
        }
        long before = x.digest();
        Check.due(x, are ? 1 : 0, "wouldSize " + kind + " 0 " + b);
        Check.due(x, are ? (Object) 0 : "throws IllegalStateException", "make " + kind + " 0 " + b);
        Check.due(x, before, "digest");
    }

    private static void factsAre(WordWright x, int language, int... want) {
        for (int what = 0; what < want.length; what++) {
            Check.due(x, want[what], "ofLanguage " + language + " " + what);
        }
    }

    /** "its least WORD (0 without one)"; "NONE, if it has no end of WORDS, or none" */
    private static void promise3Empty() {
        WordWright x = new WordWright();
        factsAre(x, 0, 1, 0, 0, 0, -1, 0);
        factsAre(x, 1, 1, 1, 1, 1, -1, 15);
        factsAre(x, x.make(1, 0, 0), 2, 1, 1, 0, 0, 0);
        factsAre(x, x.make(7, 1, 2), 2, 2, 4, 1, -1, 15);
    }

    /** "how many LETTERS its longest WORD has (NONE, if it has no end of WORDS, or none)" */
    private static void promise3Longest() {
        WordWright x = Check.lettered();
        int any = x.make(5, x.make(5, 2, 3), x.make(5, 4, 5));
        int all8 = any;
        for (int i = 1; i < 8; i++) {
            all8 = x.make(4, all8, any);
        }
        // No WORD can be longer without an end: 10 STATES, one of which none goes on from.
        factsAre(x, all8, 10, 1 << 8, Check.word("00000000"), 0, 8, 15);
        factsAre(x, x.make(10, all8, 0), 10, 511, 1, 0, 8, 15);
        // The largest ring: besides the BLANK one, the shortest WORDS have ten LETTERS.
        int two = x.make(4, any, any);
        int five = x.make(4, x.make(4, two, two), any);
        int ring = x.make(6, x.make(8, two, 0), x.make(8, five, 0));
        factsAre(x, ring, 10, 1, 1, 1, -1, 15);
        // WORDS of four LETTERS, and then of 11: more than its eight STATES.
        int four = Check.single(x, "3333");
        int sevens = x.make(8, x.make(4, four, Check.single(x, "333")), 0);
        factsAre(x, x.make(4, four, sevens), 8, 1 << 5, Check.word("3333"), 1, -1, 8);
        Check.due(x, 1 << 20, "howMany " + ring + " 10");
    }

    /** "2 its least WORD": the longest that there can be. */
    private static void promise3Least() {
        WordWright x = Check.lettered();
        int any = x.make(5, x.make(5, 2, 3), x.make(5, 4, 5));
        int long9 = 1;
        for (int i = 0; i < 9; i++) {
            long9 = x.make(4, long9, any);
        }
        factsAre(x, long9, 10, 1 << 9, Check.word("000000000"), 1, -1, 15);
        factsAre(x, x.make(7, 1, long9), 10, 511, 1, 0, 8, 15);
    }

    /** "5 the set of LETTERS in its WORDS" */
    private static void promise3Letters() {
        WordWright x = Check.lettered();
        for (int letter = 0; letter < 4; letter++) {
            Check.due(x, 1 << letter, "ofLanguage " + (2 + letter) + " 5");
        }
        Check.due(x, 9, "ofLanguage " + x.make(5, 2, 5) + " 5");
        Check.due(x, 15, "ofLanguage " + Check.single(x, "0123") + " 5");
        Check.due(x, 15, "ofLanguage " + Check.single(x, "3210") + " 5");
        Check.due(x, 6, "ofLanguage " + Check.single(x, "12") + " 5");
        // Each LETTER behind the others is the last one by which one comes to a WORD.
        Check.due(x, 9, "ofLanguage " + Check.single(x, "00000003") + " 5");
        Check.due(x, 5, "ofLanguage " + Check.single(x, "20000000") + " 5");
        // A LETTER by which one comes to no WORD any more does not count.
        Check.due(x, 6, "ofLanguage " + x.make(8, Check.single(x, "12"), 0) + " 5");
        Check.due(x, 15, "ofLanguage " + x.make(7, 1, 5) + " 5");
    }

    /** "a STATE of it": from 0 to its SIZE without 1. */
    private static void promise4EachState() {
        WordWright x = Check.lettered();
        int eight = Check.single(x, "01230123");
        int[] way = {0, 1, 3, 4, 5, 6, 7, 8, 9, 2};
        for (int i = 0; i < way.length; i++) {
            for (int letter = 0; letter < 4; letter++) {
                boolean goesOn = i < 8 && letter == i % 4;
                Check.due(x, goesOn ? way[i + 1] : 2, "next " + eight + " " + way[i] + " " + letter);
            }
        }
        Check.due(x, "throws IndexOutOfBoundsException", "next " + eight + " 10 0");
        Check.due(x, "throws IndexOutOfBoundsException", "next " + eight + " -1 0");
    }

    /** "letters: how many LETTERS", 0 to 12. */
    private static void promise6LeastAndMostLetters() {
        WordWright x = Check.lettered();
        int blank = x.make(1, 0, 0);
        for (int letters = 0; letters <= 12; letters++) {
            Check.due(x, 0, "howMany 0 " + letters);
            Check.due(x, 1 << 2 * letters, "howMany 1 " + letters);
            Check.due(x, letters == 0 ? 1 : 0, "howMany " + blank + " " + letters);
            Check.due(x, letters == 8 ? 1 : 0, "howMany " + Check.single(x, "01230123") + " " + letters);
        }
    }

    /** "if the least one has more than 10 LETTERS": 9, 10, 11 and 56 of them. */
    private static void promise7TenLetters() {
        WordWright x = Check.lettered();
        int four = Check.single(x, "3333");
        int fours = x.make(8, four, 0);
        for (int n = 5; n <= 7; n++) {
            // Of 4, 4 + n, 4 + 2n .. LETTERS, the second WORD is the first that is not of fours.
            int more = x.make(4, four, x.make(8, Check.single(x, "3".repeat(n)), 0));
            Object due = n < 7 ? (Object) Check.word("3".repeat(4 + n)) : "throws " + ARITHMETIC.getSimpleName();
            Check.due(x, due, "beyond " + more + " " + fours);
        }
        int eights = x.make(8, Check.single(x, "33333333"), 0);
        Check.due(x, 0, "beyond " + eights + " " + fours);
        int noSevens = x.make(7, 1, x.make(8, Check.single(x, "3333333"), 0));
        int someEights = x.make(7, eights, x.make(1, 0, 0));
        Check.due(x, "throws " + ARITHMETIC.getSimpleName(), "beyond " + someEights + " " + noSevens);
    }

    /** "0 without one" */
    private static void promise7NothingAndBlank() {
        WordWright x = Check.lettered();
        int blank = x.make(1, 0, 0);
        Check.due(x, 0, "beyond 0 0");
        Check.due(x, 0, "beyond 0 1");
        Check.due(x, 0, "beyond 1 1");
        Check.due(x, 0, "beyond " + blank + " 1");
        Check.due(x, 1, "beyond " + blank + " 0");
        Check.due(x, 1, "beyond 1 0");
        Check.due(x, 4, "beyond 1 " + blank);
        Check.due(x, 7, "beyond 1 " + x.make(7, 1, 5));
    }

    /** "the mean SIZE of all LANGUAGES, not cut" */
    private static void promise32NotCut() {
        WordWright x = new WordWright();
        Check.due(x, 1.0, "meanSize");
        x.make(1, 0, 0);
        Check.due(x, 4.0 / 3, "meanSize");
        WordWright full = Story.full().told();
        int sum = 0;
        for (int l = 0; l < 40; l++) {
            sum += full.ofLanguage(l, 0);
        }
        Check.due(full, sum / 40.0, "meanSize");
    }

    /** "the SIZE that make() would bring, also if there are 40" */
    private static void promise33WithForty() {
        WordWright x = Story.full().told();
        long before = x.digest();
        Check.due(x, 2, "wouldSize 8 2 0");
        Check.due(x, 3, "wouldSize 5 2 3");
        Check.due(x, 5, "wouldSize 4 2 7");
        Check.due(x, 2, "wouldSize 1 0 0");
        Check.due(x, 1, "wouldSize 0 0 0");
        Check.due(x, before, "digest");
        Check.due(x, "throws IllegalStateException", "make 8 2 0");
    }

    /** "0, if it would have more than 10 STATES" */
    private static void promise33TooMany() {
        WordWright x = Check.lettered();
        int eight = Check.single(x, "01230123");
        Check.due(x, 0, "wouldSize 4 " + eight + " 2");
        Check.due(x, 0, "wouldSize 4 " + eight + " " + eight);
        Check.due(x, 10, "wouldSize 4 " + eight + " " + x.make(1, 0, 0));
        Check.due(x, 9, "wouldSize 8 " + eight + " 0");
        Check.due(x, 1, "wouldSize 6 " + eight + " 0");
    }
}
