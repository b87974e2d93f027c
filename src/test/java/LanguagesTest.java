import java.util.HashSet;
import java.util.Set;
import java.util.function.Predicate;
import java.util.function.ToIntFunction;

/** Promises 1 to 7, 32 and 33: a new object, and LANGUAGES. */
public final class LanguagesTest {
    private static final Class<IllegalArgumentException> ARGUMENT = IllegalArgumentException.class;
    private static final Class<IllegalStateException> STATE = IllegalStateException.class;
    private static final Class<IndexOutOfBoundsException> INDEX = IndexOutOfBoundsException.class;
    private static final Class<ArithmeticException> ARITHMETIC = ArithmeticException.class;

    private static final int ENDS_WITH_1 = 6;
    private static final int PAIR = 10;
    private static final int STAR = 11;

    public static void main(String[] args) {
        promise1NewObject();
        promise2Kinds();
        promise2Numbers();
        promise2Refusals();
        promise2TooManyStates();
        promise2FortyLanguages();
        promise3OfLanguage();
        promise4Next();
        promise5Has();
        promise6HowMany();
        promise7Beyond();
        promise32MeanSize();
        promise33WouldSize();
        Check.end("LanguagesTest");
    }

    private static void promise1NewObject() {
        WordWright x = new WordWright();
        Check.due(2, "many(0)", () -> x.many(0));
        for (int what = 1; what <= 9; what++) {
            int w = what;
            Check.due(0, "many(" + w + ")", () -> x.many(w));
        }
        Check.due(1, "ofLanguage(0, 0)", () -> x.ofLanguage(0, 0));
        Check.due(0, "ofLanguage(0, 1)", () -> x.ofLanguage(0, 1));
        Check.due(1, "ofLanguage(1, 0)", () -> x.ofLanguage(1, 0));
        Check.due(1, "ofLanguage(1, 1)", () -> x.ofLanguage(1, 1));
        Check.due(625, "solutions()", x::solutions);
        Check.due(1.0, "meanSize()", x::meanSize);
        Check.due(0, "clear()", x::clear);
        Check.due(0, "span(0, 0, 0)", () -> x.span(0, 0, 0));
        Check.due(0, "span(10, 2, 0)", () -> x.span(10, 2, 0));
        Check.due(x.digest(), "digest() of another one", () -> new WordWright().digest());
    }

    /** Just those of all WORDS up to 5 LETTERS are in the LANGUAGE that is made (by 5 calls at most). */
    private static void holdsJust(Fresh fresh, String what, ToIntFunction<WordWright> made, Predicate<String> isIn) {
        for (String word : Check.words(5)) {
            WordWright x = fresh.forCalls(6);
            int language = made.applyAsInt(x);
            Check.due(isIn.test(word), what + " has " + word, () -> x.has(language, Check.word(word)));
        }
    }

    /** All WORDS that end with 1 are its LANGUAGE 6; 01 and 120 are 10, and the STAR of that is 11. */
    private static WordWright withStar() {
        WordWright x = Check.lettered();
        Check.due(ENDS_WITH_1, "make", () -> x.make(4, 1, 3));
        Check.due(PAIR, "make", () -> x.make(5, Check.single(x, "01"), Check.single(x, "120")));
        Check.due(STAR, "make", () -> x.make(8, PAIR, 0));
        return x;
    }

    private static void promise2Kinds() {
        Fresh f = new Fresh(LanguagesTest::withStar, 10);
        holdsJust(f, "NONE", x -> x.make(0, 0, 0), w -> false);
        holdsJust(f, "BLANK", x -> x.make(1, 0, 0), String::isEmpty);
        holdsJust(f, "LETTER 0", x -> 2, w -> w.equals("0"));
        holdsJust(f, "LETTER 3", x -> 5, w -> w.equals("3"));
        holdsJust(f, "ALL", x -> x.make(3, 0, 0), w -> true);
        holdsJust(f, "ends with 1", x -> ENDS_WITH_1, w -> w.endsWith("1"));
        holdsJust(f, "two WORDS", x -> PAIR, w -> w.equals("01") || w.equals("120"));
        holdsJust(f, "STAR", x -> STAR, w -> w.matches("(01|120)*"));
        holdsJust(f, "OR", x -> x.make(5, STAR, ENDS_WITH_1), w -> w.matches("(01|120)*|.*1"));
        holdsJust(f, "BOTH", x -> x.make(6, STAR, ENDS_WITH_1), w -> w.matches("(01|120)*") && w.endsWith("1"));
        holdsJust(f, "WITHOUT", x -> x.make(7, STAR, ENDS_WITH_1), w -> w.matches("(01|120)*") && !w.endsWith("1"));
        holdsJust(f, "WITHOUT the other way", x -> x.make(7, ENDS_WITH_1, STAR),
            w -> !w.matches("(01|120)*") && w.endsWith("1"));
        holdsJust(f, "JOINED", x -> x.make(4, STAR, 5), w -> w.matches("(01|120)*3"));
        holdsJust(f, "JOINED with no end", x -> x.make(4, ENDS_WITH_1, PAIR), w -> w.matches(".*1(01|120)"));
        holdsJust(f, "JOINED with NONE", x -> x.make(4, STAR, 0), w -> false);
        holdsJust(f, "TURNED", x -> x.make(9, STAR, 0), w -> w.matches("(10|021)*"));
        holdsJust(f, "TURNED ends", x -> x.make(9, ENDS_WITH_1, 0), w -> w.startsWith("1"));
        holdsJust(f, "HEADS", x -> x.make(10, PAIR, 0), w -> w.matches("|0|01|1|12|120"));
        holdsJust(f, "HEADS of a STAR", x -> x.make(10, STAR, 0), w -> w.matches("(01|120)*(|0|1|12)"));
        holdsJust(f, "HEADS of NONE", x -> x.make(10, 0, 0), w -> false);
        holdsJust(f, "STAR of NONE", x -> x.make(8, 0, 0), String::isEmpty);
        holdsJust(f, "STAR of ALL", x -> x.make(8, 1, 0), w -> true);
        promise2Out();
        promise2IntoAndRead();
        promise2SilentArcs();
    }

    private static WordWright withMachine(int[][] arcs, int finals) {
        WordWright x = withStar();
        x.machine();
        for (int[] a : arcs) {
            x.arc(0, a[0], a[1], a[2], a[3]);
        }
        x.finals(0, finals);
        return x;
    }

    private static void promise2Out() {
        int[][] arcs = {{0, 0, 0, 1}, {0, 1, 1, 2}, {1, 1, 0, 0}, {1, 0, 1, 3}, {0, 1, 0, 0}};
        Fresh f = new Fresh(() -> withMachine(arcs, 3), 20);
        // Of what ends with 1, and 0 behind that. Each ARC writes one LETTER: so what is written is as long.
        ToIntFunction<WordWright> from = x -> x.make(4, ENDS_WITH_1, x.make(8, 2, 0));
        Set<Integer> written = new HashSet<>();
        for (String read : Check.words(5)) {
            WordWright x = f.forCalls(35);
            boolean isRead = x.has(from.applyAsInt(x), Check.word(read));
            for (int k = 0; isRead && k < 32; k++) {
                written.add(x.writes(0, Check.word(read), k));
            }
        }
        holdsJust(f, "OUT", x -> x.make(11, 0, from.applyAsInt(x)), w -> written.contains(Check.word(w)));
        Fresh g = new Fresh(() -> withMachine(new int[0][], 15), 20);
        holdsJust(g, "OUT without ARCS", x -> x.make(11, 0, 1), String::isEmpty);
    }

    private static void promise2IntoAndRead() {
        int[][] arcs = {{0, 0, 0, 1}, {0, 1, 1, 2}, {1, 1, 0, 0}, {1, 0, 1, 3}, {0, 1, 0, 0}, {1, 2, 1, -1}};
        Fresh f = new Fresh(() -> withMachine(arcs, 3), 20);
        holdsJust(f, "INTO", x -> x.make(12, 0, STAR), w -> {
            WordWright x = f.forCalls(64);
            for (int k = 0; k < 32; k++) {
                int wrote = x.writes(0, Check.word(w), k);
                if (wrote != 0 && x.has(STAR, wrote)) {
                    return true;
                }
            }
            return false;
        });
        Fresh g = new Fresh(() -> withMachine(arcs, 2), 20);
        holdsJust(g, "READ", x -> x.make(13, 0, 0), w -> g.forCalls(1).writes(0, Check.word(w), 0) != 0);
    }

    private static void promise2SilentArcs() {
        Fresh f = new Fresh(() -> withMachine(new int[][] {{0, 0, 1, -1}, {1, 1, 2, -1}, {2, 2, 0, 3}}, 4), 20);
        holdsJust(f, "OUT of silent ARCS", x -> x.make(11, 0, 1), w -> w.matches("3*"));
        Check.due(2, "wouldSize(11) of silent ARCS", () -> f.forCalls(1).wouldSize(11, 0, 1));
        holdsJust(f, "INTO of silent ARCS", x -> x.make(12, 0, x.make(8, 5, 0)), w -> w.matches("(012)*01"));
    }

    private static void promise2Numbers() {
        WordWright x = new WordWright();
        Check.due(0, "make NONE", () -> x.make(0, 0, 0));
        Check.due(1, "make ALL", () -> x.make(3, 0, 0));
        Check.due(2, "make LETTER 3", () -> x.make(2, 3, 0));
        Check.due(3, "make BLANK", () -> x.make(1, 0, 0));
        Check.due(2, "make LETTER 3 again", () -> x.make(2, 3, 0));
        Check.due(2, "make LETTER 3 with BLANK behind", () -> x.make(4, 2, 3));
        Check.due(4, "make LETTER 0", () -> x.make(2, 0, 0));
        Check.due(5, "make what is not BLANK", () -> x.make(7, 1, 3));
        Check.due(1, "make that OR BLANK", () -> x.make(5, 5, 3));
        Check.due(0, "make both", () -> x.make(6, 2, 4));
        Check.due(6, "many(0)", () -> x.many(0));
        // The STATES by the order in which one comes to them: 0; by 0 the second, by 1 the third.
        Check.due(1, "next(4, 0, 0)", () -> x.next(4, 0, 0));
        Check.due(2, "next(4, 0, 1)", () -> x.next(4, 0, 1));
        Check.due(1, "next(2, 0, 0)", () -> x.next(2, 0, 0));
        Check.due(2, "next(2, 0, 3)", () -> x.next(2, 0, 3));
    }

    private static void promise2Refusals() {
        WordWright x = Check.lettered();
        x.machine();
        int[][] wrong = {{-1, 0, 0}, {14, 0, 0}, {Integer.MIN_VALUE, 0, 0}, {Integer.MAX_VALUE, 0, 0}, {0, 1, 0}, {0, 0, 1},
            {1, 1, 0}, {1, 0, -1}, {3, 1, 0}, {3, 0, 2}, {2, -1, 0}, {2, 4, 0}, {2, 0, 1}, {4, 6, 0}, {4, 0, 6}, {4, -1, 0},
            {5, 0, -1}, {5, 6, 1}, {6, 1, 6}, {6, -1, -1}, {7, 6, 6}, {7, 0, Integer.MAX_VALUE}, {8, 6, 0}, {8, -1, 0},
            {8, 1, 1}, {9, 6, 0}, {9, 1, 1}, {9, 1, -1}, {10, 6, 0}, {10, 1, 1}, {11, 1, 0}, {11, -1, 0}, {11, 0, 6},
            {11, 0, -1}, {12, 1, 0}, {12, 0, 6}, {13, 1, 0}, {13, -1, 0}, {13, 0, 1}};
        for (int[] w : wrong) {
            String call = "(" + w[0] + ", " + w[1] + ", " + w[2] + ")";
            Check.refused(x, ARGUMENT, "make" + call, () -> x.make(w[0], w[1], w[2]));
            Check.refused(x, ARGUMENT, "wouldSize" + call, () -> x.wouldSize(w[0], w[1], w[2]));
        }
    }

    private static void promise2TooManyStates() {
        WordWright x = Check.lettered();
        int eight = Check.single(x, "01230123");
        Check.due(10, "SIZE of a WORD of 8 LETTERS", () -> x.ofLanguage(eight, 0));
        Check.due(0, "wouldSize of one LETTER more", () -> x.wouldSize(4, eight, 2));
        Check.refused(x, STATE, "make of one LETTER more", () -> x.make(4, eight, 2));
        Check.due(9, "wouldSize of the STAR", () -> x.wouldSize(8, eight, 0));
        // The smallest automaton of all WORDS with a 0 at the n-th place from the end has 2^n STATES.
        int any = x.make(5, x.make(5, 2, 3), x.make(5, 4, 5));
        int third = x.make(4, x.make(4, x.make(4, 1, 2), any), any);
        Check.due(8, "SIZE of a 0 at the third place from the end", () -> x.ofLanguage(third, 0));
        Check.due(5, "wouldSize of a 0 at the third place", () -> x.wouldSize(9, third, 0));
        Check.due(0, "wouldSize of the fourth place", () -> x.wouldSize(4, third, any));
        Check.refused(x, STATE, "make of the fourth place", () -> x.make(4, third, any));
        promise2SetsOfPairs(11, 10, new int[][] {{4, 1, 3}, {4, 6, 6}, {4, 6, 7}, {5, 8, 5}, {4, 9, 7}, {4, 3, 3}, {8, 0, 0}},
            new int[][] {{2, 0, 1, 1}, {1, 2, 1, 0}, {1, 2, 1, 1}, {0, 1, 3, 1}, {3, 2, 0, 1}, {1, 2, 3, 0}, {0, 3, 2, 0},
                {2, 2, 0, 0}, {0, 1, 0, 1}, {1, 3, 0, 0}}, 1);
        promise2SetsOfPairs(11, 11, new int[][] {{4, 4, 1}, {4, 6, 6}, {4, 1, 7}, {8, 0, 0}, {4, 7, 4}, {4, 10, 7}},
            new int[][] {{0, 2, 0, 1}, {0, 1, 1, 0}, {2, 2, 0, 0}, {0, 2, 1, 0}, {1, 2, 3, 1}, {3, 1, 0, 1}, {2, 0, 2, 0},
                {0, 1, 3, 1}, {2, 2, 3, 1}, {3, 0, 3, 0}}, 0);
        promise2SetsOfPairs(12, 12, new int[][] {{4, 3, 1}, {4, 2, 2}, {8, 4, 0}, {4, 7, 6}, {4, 7, 9}, {4, 4, 8}, {4, 9, 10},
            {5, 2, 10}}, new int[][] {{2, 1, 1, 1}, {3, 0, 0, -1}, {3, 1, 1, 0}, {1, 2, 2, 1}, {0, 3, 1, 0}, {1, 1, 3, 0},
                {1, 0, 2, 1}, {1, 0, 1, 0}, {1, 3, 1, 0}, {1, 0, 0, -1}}, 1);
        promise2SetsOfPairs(12, 12, new int[][] {{4, 2, 1}, {4, 3, 6}, {4, 6, 2}, {4, 2, 8}, {4, 9, 7}, {5, 5, 3}, {4, 9, 10}},
            new int[][] {{3, 0, 1, 0}, {0, 1, 2, 1}, {2, 1, 1, 1}, {0, 3, 1, 0}, {1, 2, 3, 1}, {3, 2, 2, 0}, {0, 0, 0, -1},
                {3, 1, 3, 1}, {1, 1, 1, 0}, {1, 1, 3, 1}}, 0);
    }

    /** Without a FINAL STATE nothing is written, but more than 300 SETS (here 301) are too many all the same. */
    private static void promise2SetsOfPairs(int kind, int b, int[][] made, int[][] arcs, int size) {
        WordWright x = Check.lettered();
        for (int[] m : made) {
            x.make(m[0], m[1], m[2]);
        }
        x.machine();
        for (int[] a : arcs) {
            x.arc(0, a[0], a[1], a[2], a[3]);
        }
        Check.due(size, "wouldSize by sets of PAIRS", () -> x.wouldSize(kind, 0, b));
        if (size == 0) {
            Check.refused(x, STATE, "make by sets of PAIRS", () -> x.make(kind, 0, b));
        } else {
            Check.due(0, "make by sets of PAIRS", () -> x.make(kind, 0, b));
        }
    }

    private static void promise2FortyLanguages() {
        WordWright x = Check.lettered();
        for (int i = 0; i < 100 && x.many(0) < 40; i++) {
            x.make(4, 2 + i % 4, 2 + i / 4);
        }
        int last = x.make(9, x.make(9, 39, 0), 0);
        Check.due(39, "make of what is there", () -> last);
        Check.refused(x, STATE, "make of the 41st", () -> x.make(1, 0, 0));
        Check.due(2, "wouldSize of the 41st", () -> x.wouldSize(1, 0, 0));
        Check.due(0, "make NONE", () -> x.make(0, 0, 0));
        Check.refused(x, ARGUMENT, "make of a wrong kind with 40", () -> x.make(14, 0, 0));
        Check.refused(x, ARGUMENT, "make with 40 of the LANGUAGE 40", () -> x.make(8, 40, 0));
        Check.due(40, "many(0)", () -> x.many(0));
    }

    private static void promise3OfLanguage() {
        WordWright x = Check.lettered();
        int pair = x.make(5, Check.single(x, "31"), Check.single(x, "101"));
        int star = x.make(8, pair, 0);
        int more = x.make(7, star, x.make(1, 0, 0));
        facts(x, 0, 1, 0, 0, 0, -1, 0);
        facts(x, 1, 1, 1, 1, 1, -1, 15);
        facts(x, x.make(1, 0, 0), 2, 1, 1, 0, 0, 0);
        facts(x, 2, 3, 2, 4, 0, 1, 1);
        facts(x, 5, 3, 4, 7, 0, 1, 8);
        // 0 -0-> 1 (none), -1-> 2, -3-> 3; 2 -0-> 3; 3 -1-> 4, an end.
        facts(x, pair, 5, 16, Check.word("31"), 0, 3, 11);
        facts(x, star, 4, 1, 1, 1, -1, 11);
        facts(x, more, 5, 16, Check.word("31"), 1, -1, 11);
        facts(x, Check.single(x, "22222222"), 10, 1 << 9, Check.word("22222222"), 0, 8, 4);
        Check.refused(x, INDEX, "ofLanguage(-1, 0)", () -> x.ofLanguage(-1, 0));
        Check.refused(x, INDEX, "ofLanguage(many, 0)", () -> x.ofLanguage(x.many(0), 0));
        Check.refused(x, INDEX, "ofLanguage(-1, 6)", () -> x.ofLanguage(-1, 6));
        Check.refused(x, ARGUMENT, "ofLanguage(0, 6)", () -> x.ofLanguage(0, 6));
        Check.refused(x, ARGUMENT, "ofLanguage(0, -1)", () -> x.ofLanguage(0, -1));
    }

    private static void facts(WordWright x, int language, int... want) {
        for (int what = 0; what < want.length; what++) {
            int w = what;
            Check.due(want[w], "ofLanguage(" + language + ", " + w + ")", () -> x.ofLanguage(language, w));
        }
    }

    private static void promise4Next() {
        WordWright x = Check.lettered();
        int pair = x.make(5, Check.single(x, "31"), Check.single(x, "101"));
        int[][] rows = {{1, 2, 1, 3}, {1, 1, 1, 1}, {3, 1, 1, 1}, {1, 4, 1, 1}, {1, 1, 1, 1}};
        for (int s = 0; s < 5; s++) {
            for (int l = 0; l < 4; l++) {
                int state = s;
                int letter = l;
                Check.due(rows[s][l], "next(31|101, " + s + ", " + l + ")", () -> x.next(pair, state, letter));
            }
        }
        Check.refused(x, INDEX, "next(-1, 0, 0)", () -> x.next(-1, 0, 0));
        Check.refused(x, INDEX, "next(99, 0, 0)", () -> x.next(99, 0, 0));
        Check.refused(x, INDEX, "next(0, 1, 0)", () -> x.next(0, 1, 0));
        Check.refused(x, INDEX, "next of a STATE 5 of 5", () -> x.next(pair, 5, 0));
        Check.refused(x, INDEX, "next(0, -1, 0)", () -> x.next(0, -1, 0));
        Check.refused(x, INDEX, "next(0, 0, 4)", () -> x.next(0, 0, 4));
        Check.refused(x, INDEX, "next(0, 0, -1)", () -> x.next(0, 0, -1));
    }

    private static void promise5Has() {
        WordWright x = Check.lettered();
        int only = Check.single(x, "0213");
        int star = x.make(8, 5, 0);
        Check.due(true, "has the WORD", () -> x.has(only, Check.word("0213")));
        Check.due(false, "has it turned", () -> x.has(only, Check.word("3120")));
        Check.due(true, "has 10 LETTERS", () -> x.has(star, Check.word("3333333333")));
        Check.due(false, "has others", () -> x.has(star, Check.word("3333333330")));
        Check.due(true, "has the BLANK one", () -> x.has(star, 1));
        Check.due(false, "NONE has the BLANK one", () -> x.has(0, 1));
        int[] wrong = {0, -1, 2, 3, 8, 15, 32, 63, 1 << 19, (1 << 20) - 1, 1 << 21, (1 << 22) - 1, 1 << 22, 1 << 30,
            Integer.MAX_VALUE, Integer.MIN_VALUE, Integer.MIN_VALUE + 4};
        for (int w : wrong) {
            Check.refused(x, ARGUMENT, "has(1, " + w + ")", () -> x.has(1, w));
        }
        Check.refused(x, INDEX, "has(-1, 1)", () -> x.has(-1, 1));
        Check.refused(x, INDEX, "has(99, 0)", () -> x.has(99, 0));
    }

    private static void promise6HowMany() {
        WordWright x = Check.lettered();
        int ends = x.make(4, 1, 3);
        Check.due(0, "howMany(ends, 0)", () -> x.howMany(ends, 0));
        Check.due(1, "howMany(ends, 1)", () -> x.howMany(ends, 1));
        Check.due(4194304, "howMany(ends, 12)", () -> x.howMany(ends, 12));
        Check.due(16777216, "howMany(1, 12)", () -> x.howMany(1, 12));
        Check.due(1, "howMany(1, 0)", () -> x.howMany(1, 0));
        Check.due(0, "howMany(0, 5)", () -> x.howMany(0, 5));
        int star = x.make(8, x.make(5, 2, Check.single(x, "12")), 0);
        int[] fibonacci = {1, 1, 2, 3, 5, 8, 13, 21, 34, 55, 89, 144, 233};
        for (int n = 0; n <= 12; n++) {
            int letters = n;
            Check.due(fibonacci[n], "howMany((0|12)*, " + n + ")", () -> x.howMany(star, letters));
        }
        Check.refused(x, ARGUMENT, "howMany(0, 13)", () -> x.howMany(0, 13));
        Check.refused(x, ARGUMENT, "howMany(0, -1)", () -> x.howMany(0, -1));
        Check.refused(x, INDEX, "howMany(-1, 13)", () -> x.howMany(-1, 13));
        Check.refused(x, INDEX, "howMany(99, 0)", () -> x.howMany(99, 0));
    }

    private static void promise7Beyond() {
        WordWright x = Check.lettered();
        int two = Check.single(x, "00");
        int three = Check.single(x, "000");
        int twos = x.make(8, two, 0);
        int threes = x.make(8, three, 0);
        Check.due(1, "beyond(1, 0)", () -> x.beyond(1, 0));
        Check.due(0, "beyond(0, 1)", () -> x.beyond(0, 1));
        Check.due(0, "beyond(1, 1)", () -> x.beyond(1, 1));
        Check.due(Check.word("00"), "beyond(twos, threes)", () -> x.beyond(twos, threes));
        Check.due(Check.word("000"), "beyond(threes, twos)", () -> x.beyond(threes, twos));
        Check.due(Check.word("1"), "beyond(1, 0*)", () -> x.beyond(1, x.make(8, 2, 0)));
        int fours = x.make(8, Check.single(x, "3333"), 0);
        int fourAndSixes = x.make(4, Check.single(x, "3333"), x.make(8, Check.single(x, "333333"), 0));
        Check.due(Check.word("3333333333"), "beyond with 10 LETTERS", () -> x.beyond(fourAndSixes, fours));
        int fourAndSevens = x.make(4, Check.single(x, "3333"), x.make(8, Check.single(x, "3333333"), 0));
        Check.refused(x, ARITHMETIC, "beyond with 11 LETTERS", () -> x.beyond(fourAndSevens, fours));
        Check.refused(x, INDEX, "beyond(many, with 11 LETTERS)", () -> x.beyond(x.many(0), fours));
        int sevens = x.make(8, Check.single(x, "3333333"), 0);
        int eights = x.make(7, x.make(8, Check.single(x, "33333333"), 0), x.make(1, 0, 0));
        int noSevens = x.make(7, 1, sevens);
        Check.refused(x, ARITHMETIC, "beyond with 56 LETTERS", () -> x.beyond(eights, noSevens));
        Check.due(0, "beyond with nothing for ever", () -> x.beyond(fourAndSevens, x.make(8, 5, 0)));
        Check.refused(x, INDEX, "beyond(-1, 0)", () -> x.beyond(-1, 0));
        Check.refused(x, INDEX, "beyond(0, 99)", () -> x.beyond(0, 99));
    }

    private static void promise32MeanSize() {
        WordWright x = new WordWright();
        x.make(2, 0, 0);
        Check.due(5.0 / 3, "meanSize()", x::meanSize);
        x.make(1, 0, 0);
        Check.due(7.0 / 4, "meanSize()", x::meanSize);
        x.make(0, 0, 0);
        Check.due(7.0 / 4, "meanSize()", x::meanSize);
    }

    private static void promise33WouldSize() {
        WordWright x = Check.lettered();
        long before = x.digest();
        Check.due(1, "wouldSize(0)", () -> x.wouldSize(0, 0, 0));
        Check.due(2, "wouldSize(1)", () -> x.wouldSize(1, 0, 0));
        Check.due(3, "wouldSize(2)", () -> x.wouldSize(2, 3, 0));
        Check.due(1, "wouldSize(3)", () -> x.wouldSize(3, 0, 0));
        Check.due(4, "wouldSize(4)", () -> x.wouldSize(4, 2, 3));
        Check.due(3, "wouldSize(5)", () -> x.wouldSize(5, 2, 3));
        Check.due(1, "wouldSize(6)", () -> x.wouldSize(6, 2, 3));
        Check.due(3, "wouldSize(7)", () -> x.wouldSize(7, 1, 2));
        Check.due(2, "wouldSize(8)", () -> x.wouldSize(8, 2, 0));
        Check.due(3, "wouldSize(9)", () -> x.wouldSize(9, 2, 0));
        Check.due(3, "wouldSize(10)", () -> x.wouldSize(10, 2, 0));
        Check.due(before, "digest() as before", x::digest);
    }
}
