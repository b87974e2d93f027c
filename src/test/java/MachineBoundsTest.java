/** Promises 8 to 14, and the part 2 of the Terms: each sentence that names a boundary, for MACHINES. */
public final class MachineBoundsTest {
    public static void main(String[] args) {
        sixMachinesAtMost();
        noneAtFirst();
        statesZeroToThree();
        tenArcsAtMost();
        anArcMayWriteNothing();
        finalsZeroToFifteen();
        severalWordsOrNone();
        promise11FiveLetters();
        promise11EachOnceInOrder();
        promise11NumbersFromZero();
        promise12FunctionalUpToALength();
        promise12WithoutLetters();
        promise12SameWordByTwoWays();
        promise13WithoutALoop();
        promise13FinalAtTheEndsOrBetween();
        promise13FirstMayBeBlank();
        promise13FewestLettersInBoth();
        promise13LongestLoop();
        promise13ArcsInAnyOrder();
        promise13EachMachineByItself();
        promise14TenLetters();
        promise14NothingAndBlank();
        promise14WritesNothing();
        promise14ArcsInAnyOrder();
        Check.end("MachineBoundsTest");
    }

    private static WordWright machine(int finals, String... arcs) {
        WordWright x = Check.lettered();
        x.machine();
        add(x, arcs);
        x.finals(0, finals);
        return x;
    }

    private static void add(WordWright x, String... arcs) {
        for (String arc : arcs) {
            int before = x.many(2);
            Calls.answer(x, "arc 0 " + arc);
            Check.due(x, before + 1, "many 2");
        }
    }

    private static String writes(String word, int k) {
        return "writes 0 " + Check.word(word) + " " + k;
    }

    private static void loopIs(WordWright x, String first, String second) {
        Check.due(x, first == null ? 0 : Check.word(first), "loop 0 0");
        Check.due(x, second == null ? 0 : Check.word(second), "loop 0 1");
    }

    /** "At most 6 MACHINES, numbered from 0" */
    private static void sixMachinesAtMost() {
        WordWright x = new WordWright();
        Check.due(x, "throws IndexOutOfBoundsException", "finals 0 0");
        for (int m = 0; m < 6; m++) {
            Check.due(x, m, "machine");
            Check.due(x, m + 1, "many 1");
            Check.due(x, 0, "finals " + m + " 1");
            Check.due(x, "throws IndexOutOfBoundsException", "finals " + (m + 1) + " 0");
        }
        Check.due(x, "throws IllegalStateException", "machine");
        Check.due(x, 6, "many 1");
    }

    /** "a set of FINAL ones (none at first)"; "Adds a MACHINE, without ARCS." */
    private static void noneAtFirst() {
        WordWright x = new WordWright();
        x.machine();
        Check.due(x, 0, "many 2");
        Check.due(x, 0, "writes 0 1 0");
        Check.due(x, 0, "loop 0 0");
        Check.due(x, 0, "several 0 4");
        Check.due(x, 0, "breaks 0 1 0");
        Check.due(x, 0, "arc 0 0 0 0 0");
        Check.due(x, 0, "writes 0 4 0");
        Check.due(x, 0, "finals 0 15");
    }

    /** "with 4 STATES 0 to 3 (it begins with 0)" */
    private static void statesZeroToThree() {
        WordWright x = machine(8, "0 0 3 3", "3 3 3 0", "1 1 3 1", "2 1 3 1");
        Check.due(x, Check.word("3"), writes("0", 0));
        Check.due(x, Check.word("30000"), writes("03333", 0));
        Check.due(x, 0, writes("3", 0));
        Check.due(x, 0, writes("1", 0));
        Check.due(x, 0, writes("", 0));
    }

    /** "at most 10 ARCS, numbered from 0" */
    private static void tenArcsAtMost() {
        WordWright x = machine(8);
        x.machine();
        for (int i = 0; i < 9; i++) {
            Check.due(x, i, "arc 0 0 0 0 0");
        }
        Check.due(x, 0, writes("3", 0));
        Check.due(x, 9, "arc 0 0 3 3 2");
        Check.due(x, Check.word("2"), writes("3", 0));
        Check.due(x, Check.word("02"), writes("03", 0));
        Check.due(x, "throws IllegalStateException", "arc 0 0 1 3 1");
        Check.due(x, 0, writes("1", 0));
        // Ten of each.
        for (int i = 0; i < 10; i++) {
            Check.due(x, i, "arc 1 0 0 0 0");
        }
        Check.due(x, 20, "many 2");
        Check.due(x, "throws IllegalStateException", "arc 1 0 0 0 0");
    }

    /** "it writes a LETTER, or nothing (NONE)" */
    private static void anArcMayWriteNothing() {
        WordWright x = machine(1, "0 0 0 -1", "0 1 0 0", "0 2 0 3");
        Check.due(x, 1, writes("", 0));
        Check.due(x, 1, writes("0", 0));
        Check.due(x, 1, writes("00000", 0));
        Check.due(x, 4, writes("1", 0));
        Check.due(x, 7, writes("2", 0));
        Check.due(x, Check.word("30"), writes("02001", 0));
    }

    /** "the set of its FINAL STATES from now on"; "if finals is not 0 to 15" */
    private static void finalsZeroToFifteen() {
        WordWright x = machine(0, "0 0 1 0", "1 0 2 0", "2 0 3 0");
        for (int finals = 0; finals <= 15; finals++) {
            Check.due(x, finals == 0 ? 0 : finals - 1, "finals 0 " + finals);
            for (int letters = 0; letters <= 3; letters++) {
                boolean ends = (finals >> letters & 1) != 0;
                Check.due(x, ends ? 1 << 2 * letters : 0, writes("0".repeat(letters), 0));
            }
        }
        Check.due(x, "throws IllegalArgumentException", "finals 0 16");
        Check.due(x, "throws IllegalArgumentException", "finals 0 -1");
        Check.due(x, 15, "finals 0 0");
    }

    /** "(so it can be several WORDS, or none)" */
    private static void severalWordsOrNone() {
        WordWright x = machine(2, "0 0 1 0", "0 0 1 1", "0 1 2 0");
        Check.due(x, 4, writes("0", 0));
        Check.due(x, 5, writes("0", 1));
        Check.due(x, 0, writes("0", 2));
        Check.due(x, 0, writes("1", 0));
        Check.due(x, 0, writes("2", 0));
    }

    /** "or has more than 5 LETTERS" */
    private static void promise11FiveLetters() {
        WordWright x = machine(1, "0 0 0 3", "0 3 0 0");
        Check.due(x, Check.word("33333"), writes("00000", 0));
        Check.due(x, Check.word("00000"), writes("33333", 0));
        Check.due(x, Check.word("3"), writes("0", 0));
        Check.due(x, "throws IllegalArgumentException", writes("000000", 0));
        Check.due(x, "throws IllegalArgumentException", writes("333333", 0));
        Check.due(x, "throws IllegalArgumentException", writes("3333333333", 0));
    }

    /** "the one by that number, in order (each once)" */
    private static void promise11EachOnceInOrder() {
        WordWright x = machine(15, "0 0 1 3", "0 0 2 3", "0 0 3 -1", "0 0 0 3", "1 1 1 2", "2 1 1 2", "3 1 3 -1", "3 1 3 2",
            "0 1 0 0", "2 1 2 0");
        Check.due(x, 1, writes("0", 0));
        Check.due(x, 7, writes("0", 1));
        Check.due(x, 0, writes("0", 2));
        String[] due = {"", "2", "30", "32"};
        for (int k = 0; k < due.length; k++) {
            Check.due(x, Check.word(due[k]), writes("01", k));
        }
        Check.due(x, 0, writes("01", 4));
    }

    /** "a number, from 0"; "0 without one" */
    private static void promise11NumbersFromZero() {
        WordWright x = machine(1, "0 3 0 -1", "0 3 0 0", "0 3 0 1", "0 3 0 2", "0 3 0 3");
        Check.due(x, 1, writes("33333", 0));
        Check.due(x, 4, writes("33333", 1));
        Check.due(x, Check.word("33333"), writes("33333", 1364));
        Check.due(x, 0, writes("33333", 1365));
        Check.due(x, 0, writes("33333", Integer.MAX_VALUE));
        Check.due(x, "throws IllegalArgumentException", writes("33333", -1));
    }

    /** "It is FUNCTIONAL up to a length, if it writes one WORD at most for each WORD that is not longer." */
    private static void promise12FunctionalUpToALength() {
        for (int length = 1; length <= 4; length++) {
            // A ring of so many STATES; at its end there are two LETTERS to write.
            WordWright x = machine(1);
            for (int i = 1; i < length; i++) {
                add(x, (i - 1) + " 3 " + i + " 0");
            }
            add(x, (length - 1) + " 1 0 0", (length - 1) + " 1 0 1");
            for (int letters = 0; letters <= 4; letters++) {
                int due = letters < length ? 0 : Check.word("3".repeat(length - 1) + "1");
                Check.due(x, due, "several 0 " + letters);
            }
        }
    }

    /** "letters: how many LETTERS", 0: just the BLANK WORD, for which nothing but the BLANK one is written. */
    private static void promise12WithoutLetters() {
        WordWright x = machine(15, "0 0 0 0", "0 0 0 1", "0 0 1 -1");
        Check.due(x, 1, writes("", 0));
        Check.due(x, 0, writes("", 1));
        Check.due(x, 0, "several 0 0");
        Check.due(x, 4, "several 0 1");
        Check.due(x, 4, "several 0 4");
    }

    /** "if it writes one WORD at most": the same one by two ways is one. */
    private static void promise12SameWordByTwoWays() {
        WordWright x = machine(14, "0 0 1 -1", "1 1 2 3", "0 0 3 3", "3 1 3 -1");
        Check.due(x, 1, writes("0", 0));
        Check.due(x, 7, writes("0", 1));
        Check.due(x, 4, "several 0 4");
        x.finals(0, 12);
        Check.due(x, Check.word("3"), writes("01", 0));
        Check.due(x, 0, writes("01", 1));
        Check.due(x, 0, "several 0 4");
    }

    /** "0 without a LOOP" */
    private static void promise13WithoutALoop() {
        loopIs(machine(15), null, null);
        loopIs(machine(15, "0 0 1 0", "1 0 2 0", "2 0 3 0", "0 1 3 0"), null, null);
        loopIs(machine(0, "0 0 0 0", "0 1 1 0", "1 0 0 0"), null, null);
        // Round where there is no way from 0, and round without a FINAL STATE.
        loopIs(machine(8, "0 0 1 0", "1 1 0 0", "0 0 3 0", "2 2 2 0"), null, null);
        loopIs(machine(4, "0 0 1 0", "2 2 2 0", "2 2 1 0"), null, null);
    }

    /** "by way of a FINAL one (at its ends, or between)" */
    private static void promise13FinalAtTheEndsOrBetween() {
        String[] ring = {"0 2 1 0", "1 1 2 0", "2 0 3 0", "3 3 1 0"};
        loopIs(machine(2, ring), "2", "103");
        loopIs(machine(4, ring), "2", "103");
        loopIs(machine(8, ring), "2", "103");
        loopIs(machine(14, ring), "2", "103");
        loopIs(machine(1, ring), null, null);
    }

    /** "a WORD with which it comes from 0 to a STATE, and one that is not BLANK" */
    private static void promise13FirstMayBeBlank() {
        loopIs(machine(1, "0 3 0 -1"), "", "3");
        loopIs(machine(2, "0 3 1 0", "1 2 0 -1"), "", "32");
        loopIs(machine(2, "0 3 1 0", "1 2 0 -1", "1 3 1 0"), "", "32");
        loopIs(machine(2, "0 3 1 0", "1 3 1 0"), "3", "3");
    }

    /** "that with the fewest LETTERS in both WORDS, of these that with the least first WORD, then the least second one" */
    private static void promise13FewestLettersInBoth() {
        // Three LETTERS with the BLANK one as the first WORD, or 3 and 3.
        String[] arcs = {"0 0 1 0", "1 0 2 0", "2 0 0 0", "0 3 3 0", "3 3 3 0"};
        loopIs(machine(15, arcs), "3", "3");
        loopIs(machine(7, arcs), "", "000");
        // As many LETTERS in both: the BLANK first WORD, though 0 and 0 would be less as the second one.
        String[] same = {"0 3 1 0", "1 3 0 0", "0 0 2 0", "2 0 2 0"};
        loopIs(machine(7, same), "", "33");
        loopIs(machine(4, same), "0", "0");
        // The same first WORD: the least second one, also if it is of another STATE.
        String[] two = {"0 1 1 0", "0 1 2 0", "1 3 1 0", "2 2 2 0", "1 0 3 0", "3 0 1 0"};
        loopIs(machine(6, two), "1", "2");
        loopIs(machine(2, two), "1", "3");
        loopIs(machine(8, two), "1", "00");
    }

    /** The most LETTERS that a LOOP may need: by all four STATES. */
    private static void promise13LongestLoop() {
        loopIs(machine(8, "0 3 1 0", "1 2 2 0", "2 1 3 0", "3 0 3 0"), "321", "0");
        loopIs(machine(1, "0 3 1 0", "1 2 2 0", "2 1 3 0", "3 0 0 0"), "", "3210");
        loopIs(machine(8, "0 3 1 0", "1 2 2 0", "2 1 3 0", "3 0 2 0"), "32", "10");
    }

    /** The first ARC may be the last one on the way. */
    private static void promise13ArcsInAnyOrder() {
        loopIs(machine(8, "3 0 3 0", "2 1 3 0", "1 2 2 0", "0 3 1 0"), "321", "0");
        loopIs(machine(1, "3 0 0 0", "2 1 3 0", "1 2 2 0", "0 3 1 0"), "", "3210");
        loopIs(machine(2, "1 2 0 0", "0 3 1 0"), "", "32");
        loopIs(machine(8, "2 3 2 0", "1 3 2 0", "1 0 2 0", "0 3 1 0", "0 2 1 0", "2 2 3 0", "3 3 2 0", "3 1 2 0"), "20", "21");
    }

    /** What one MACHINE can do does not count for another one. */
    private static void promise13EachMachineByItself() {
        WordWright x = machine(8, "0 0 1 0", "1 0 2 0", "2 0 3 0", "3 1 3 0");
        loopIs(x, "000", "1");
        x.machine();
        x.arc(1, 3, 1, 3, 0);
        x.arc(1, 2, 1, 2, 0);
        x.finals(1, 12);
        Check.due(x, 0, "loop 1 0");
        Check.due(x, 0, "loop 1 1");
        loopIs(x, "000", "1");
        Check.due(x, 0, "writes 1 5 0");
        Check.due(x, 0, "breaks 1 1 0");
        Check.due(x, Check.word("000"), "breaks 0 1 0");
    }

    /** "if the least one has more than 10 LETTERS": 9, 10 and 11 of them, and many more. */
    private static void promise14TenLetters() {
        WordWright x = machine(1, "0 3 0 3");
        int four = Check.single(x, "3333");
        int fours = x.make(8, four, 0);
        for (int n = 5; n <= 7; n++) {
            int more = x.make(4, four, x.make(8, Check.single(x, "3".repeat(n)), 0));
            Object due = n < 7 ? (Object) Check.word("3".repeat(4 + n)) : "throws ArithmeticException";
            Check.due(x, due, "breaks 0 " + more + " " + fours);
        }
        int eights = x.make(8, Check.single(x, "33333333"), 0);
        int noSevens = x.make(7, 1, x.make(8, Check.single(x, "3333333"), 0));
        // It writes one LETTER for three, so that of 24, 48 .. LETTERS the first one that breaks is of 168.
        x.machine();
        x.arc(1, 0, 3, 1, -1);
        x.arc(1, 1, 3, 2, -1);
        x.arc(1, 2, 3, 0, 3);
        x.finals(1, 1);
        int someEights = x.make(7, eights, x.make(1, 0, 0));
        Check.due(x, "throws ArithmeticException", "breaks 1 " + someEights + " " + noSevens);
        Check.due(x, 1, "breaks 1 " + eights + " " + noSevens);
    }

    /** "0 without one" */
    private static void promise14NothingAndBlank() {
        WordWright x = machine(1, "0 0 0 0", "0 1 0 1");
        Check.due(x, 0, "breaks 0 0 0");
        Check.due(x, 0, "breaks 0 1 1");
        Check.due(x, 0, "breaks 0 0 1");
        Check.due(x, 1, "breaks 0 1 0");
        Check.due(x, 4, "breaks 0 1 " + x.make(1, 0, 0));
        Check.due(x, 0, "breaks 0 4 0");
        Check.due(x, 0, "breaks 0 2 2");
        Check.due(x, 4, "breaks 0 2 3");
        Check.due(x, 0, "breaks 0 1 " + x.make(8, x.make(5, 2, 3), 0));
    }

    /** "the least WORD of the first one": also if the ARC by a greater LETTER has the first number. */
    private static void promise14ArcsInAnyOrder() {
        WordWright x = machine(2, "0 3 1 3", "0 2 1 3", "0 0 1 3", "0 1 1 3");
        Check.due(x, 4, "breaks 0 1 0");
        x = machine(2, "0 3 3 3", "0 2 2 3", "3 0 1 0", "2 1 1 0");
        Check.due(x, Check.word("21"), "breaks 0 1 0");
        x = machine(2, "0 3 3 3", "0 1 2 3", "2 3 1 0", "3 0 1 0", "1 0 0 0");
        Check.due(x, Check.word("13"), "breaks 0 1 0");
        Check.due(x, Check.word("30"), "breaks 0 " + x.make(4, 1, 2) + " 0");
    }

    /** "for which it writes something that is not in the other one": what is not written breaks nothing. */
    private static void promise14WritesNothing() {
        WordWright x = machine(0, "0 0 0 0", "0 1 1 -1");
        Check.due(x, 0, "breaks 0 1 0");
        x.finals(0, 2);
        Check.due(x, 5, "breaks 0 1 0");
        Check.due(x, Check.word("01"), "breaks 0 1 " + x.make(1, 0, 0));
        x.finals(0, 8);
        Check.due(x, 0, "breaks 0 1 0");
    }
}
