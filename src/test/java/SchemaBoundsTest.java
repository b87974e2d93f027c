/** Promises 21 to 26, and the part 4 of the Terms: each sentence that names a boundary, for SCHEMAS and the DOCUMENT. */
public final class SchemaBoundsTest {
    public static void main(String[] args) {
        fourSchemasAtMost();
        noneAtAllAtFirst();
        languagesBeneath();
        thirtyNodesAtMost();
        tenBeneathAParent();
        neverWithNone();
        noNode();
        nothingBeneathIsTheBlankWord();
        inTheOrderInWhichTheyWereAdded();
        firstNodeByNumber();
        lastNodeOfThirty();
        leastOfOneNode();
        leastOfMostNodes();
        withoutALeastOne();
        leastByAllLetters();
        withinWithoutDocuments();
        withinItself();
        withinByTheBlankWordAlone();
        withinByWhatIsInTheFirst();
        withinByFourLevels();
        withinByLongWords();
        Check.end("SchemaBoundsTest");
    }

    /** A new object with the LETTERS as 2 to 5, the BLANK one as 6, and SCHEMAS. */
    private static WordWright ready(int schemas) {
        WordWright x = Check.lettered();
        x.make(1, 0, 0);
        for (int s = 0; s < schemas; s++) {
            x.schema();
        }
        return x;
    }

    private static void beneathAre(WordWright x, int schema, int... languages) {
        for (int letter = 0; letter < 4; letter++) {
            x.beneath(schema, letter, languages[letter]);
        }
    }

    private static void leastAre(WordWright x, int schema, int... due) {
        for (int letter = 0; letter < 4; letter++) {
            Check.due(x, due[letter], "least " + schema + " " + letter);
        }
    }

    /** "At most 4 SCHEMAS, numbered from 0" */
    private static void fourSchemasAtMost() {
        WordWright x = ready(0);
        for (int s = 0; s < 4; s++) {
            Check.due(x, "throws IndexOutOfBoundsException", "least " + s + " 0");
            Check.due(x, s, "schema");
            Check.due(x, s + 1, "many 5");
        }
        Check.due(x, "throws IllegalStateException", "schema");
        Check.due(x, 4, "many 5");
        Check.due(x, 0, "beneath 3 3 6");
        Check.due(x, 1, "least 3 3");
        Check.due(x, -1, "least 2 3");
    }

    /** "(that of NONE at all at first)" */
    private static void noneAtAllAtFirst() {
        WordWright x = ready(1);
        x.node(-1, 0);
        for (int letter = 0; letter < 4; letter++) {
            Check.due(x, -1, "least 0 " + letter);
            x.node(-1, letter);
            Check.due(x, 0, "misfit 0");
            Check.due(x, 0, "beneath 0 " + letter + " 1");
            Check.due(x, 1, "beneath 0 " + letter + " 0");
        }
    }

    /** "if there is no such LANGUAGE": the first and the last one there are. */
    private static void languagesBeneath() {
        WordWright x = Story.full().told();
        Check.due(x, 6, "beneath 0 0 39");
        Check.due(x, 39, "beneath 0 0 0");
        Check.due(x, 0, "beneath 0 0 1");
        Check.due(x, 6, "beneath 3 3 39");
        Check.due(x, "throws IllegalArgumentException", "beneath 3 3 40");
        Check.due(x, "throws IllegalArgumentException", "beneath 3 3 -1");
        Check.due(x, 39, "beneath 3 3 0");
    }

    /** "numbered from 0 as they are added, at most 30" */
    private static void thirtyNodesAtMost() {
        WordWright x = ready(1);
        Check.due(x, 0, "node -1 3");
        for (int n = 1; n < 30; n++) {
            Check.due(x, n, "node " + (n - 1) + " " + n % 4);
            Check.due(x, n + 1, "many 6");
        }
        for (int parent = 0; parent < 30; parent++) {
            Check.due(x, "throws IllegalStateException", "node " + parent + " 0");
        }
        Check.due(x, "throws IndexOutOfBoundsException", "node 30 0");
        Check.due(x, 30, "many 6");
    }

    /** "or 10 beneath the PARENT" */
    private static void tenBeneathAParent() {
        WordWright x = ready(1);
        x.node(-1, 3);
        for (int parent = 0; parent < 2; parent++) {
            for (int i = 1; i <= 10; i++) {
                Check.due(x, 10 * parent + i, "node " + parent + " " + i % 4);
            }
            Check.due(x, "throws IllegalStateException", "node " + parent + " 0");
        }
        Check.due(x, 21, "many 6");
        Check.due(x, 21, "node 20 0");
        // All ten of them are read.
        beneathAre(x, 0, 6, 6, 6, 1);
        Check.due(x, 1, "misfit 0");
        beneathAre(x, 0, 1, 1, 1, x.make(4, 1, 4));
        Check.due(x, 3, "misfit 0");
    }

    /** "NONE for the NODE 0, with which the DOCUMENT begins anew"; "(never with NONE)" */
    private static void neverWithNone() {
        WordWright x = Story.full().told();
        Check.due(x, 30, "many 6");
        Check.due(x, 0, "node -1 2");
        Check.due(x, 1, "many 6");
        Check.due(x, "throws IndexOutOfBoundsException", "node 1 0");
        // None of the old ones is beneath it.
        Check.due(x, 6, "beneath 0 2 6");
        Check.due(x, -1, "misfit 0");
        for (int i = 1; i <= 10; i++) {
            Check.due(x, i, "node 0 0");
        }
        Check.due(x, "throws IllegalStateException", "node 0 0");
        Check.due(x, 0, "node -1 0");
        Check.due(x, 0, "node -1 0");
        Check.due(x, 1, "many 6");
    }

    /** "if there is no NODE" */
    private static void noNode() {
        WordWright x = ready(1);
        Check.due(x, 0, "many 6");
        Check.due(x, "throws IllegalStateException", "misfit 0");
        Check.due(x, "throws IndexOutOfBoundsException", "node 0 0");
        x.node(-1, 0);
        Check.due(x, 0, "misfit 0");
    }

    /** "if of each NODE the LETTERS beneath it are a WORD of the LANGUAGE for its LETTER": of one without any, too. */
    private static void nothingBeneathIsTheBlankWord() {
        WordWright x = ready(1);
        x.node(-1, 1);
        int[] languages = {0, 1, 2, 6};
        int[] due = {0, -1, 0, -1};
        for (int i = 0; i < languages.length; i++) {
            x.beneath(0, 1, languages[i]);
            Check.due(x, due[i], "misfit 0");
        }
    }

    /** "those beneath a NODE are in the order in which they were added" */
    private static void inTheOrderInWhichTheyWereAdded() {
        WordWright x = ready(1);
        beneathAre(x, 0, 1, 1, 1, Check.single(x, "012"));
        x.node(-1, 3);
        x.node(0, 0);
        x.node(1, 2);
        x.node(0, 1);
        x.node(1, 1);
        x.node(0, 2);
        Check.due(x, -1, "misfit 0");
        x.beneath(0, 3, Check.single(x, "021"));
        Check.due(x, 0, "misfit 0");
        x.beneath(0, 3, 1);
        x.beneath(0, 0, Check.single(x, "21"));
        Check.due(x, -1, "misfit 0");
        x.beneath(0, 0, Check.single(x, "12"));
        Check.due(x, 1, "misfit 0");
    }

    /** "the first NODE by number that keeps the DOCUMENT from FITTING": not by how deep it is. */
    private static void firstNodeByNumber() {
        WordWright x = ready(1);
        beneathAre(x, 0, 1, 1, 6, 1);
        x.node(-1, 0);
        x.node(0, 1);
        x.node(1, 2);
        x.node(0, 2);
        x.node(2, 0);
        Check.due(x, 2, "misfit 0");
        x.node(3, 0);
        Check.due(x, 2, "misfit 0");
        x.beneath(0, 2, 1);
        Check.due(x, -1, "misfit 0");
        x.beneath(0, 0, Check.single(x, "12"));
        Check.due(x, 4, "misfit 0");
    }

    /** "NONE, if it FITS": the last of thirty NODES may keep it from that alone. */
    private static void lastNodeOfThirty() {
        WordWright x = ready(1);
        beneathAre(x, 0, 1, 0, 1, 1);
        x.node(-1, 0);
        for (int n = 1; n < 29; n++) {
            x.node(n - 1, 2);
        }
        Check.due(x, -1, "misfit 0");
        Check.due(x, 29, "node 28 1");
        Check.due(x, 29, "misfit 0");
        x.beneath(0, 1, 6);
        Check.due(x, -1, "misfit 0");
    }

    /** "how many NODES the smallest one has": one, with nothing beneath it. */
    private static void leastOfOneNode() {
        WordWright x = ready(1);
        beneathAre(x, 0, 6, 1, 2, 0);
        leastAre(x, 0, 1, 1, 2, -1);
    }

    /** Nine LETTERS of another sort beneath each NODE, four levels deep: 1 + 9 * (1 + 9 * (1 + 9)). */
    private static void leastOfMostNodes() {
        WordWright x = ready(1);
        int any = x.make(5, x.make(5, 2, 3), x.make(5, 4, 5));
        x.beneath(0, 0, 6);
        for (int letter = 0; letter < 3; letter++) {
            int others = x.make(8, x.make(7, any, 2 + letter), 0);
            int one = x.make(4, others, 2 + letter);
            int three = x.make(4, one, x.make(4, one, one));
            int nine = x.make(4, three, x.make(4, three, x.make(4, three, 1)));
            x.beneath(0, letter + 1, nine);
        }
        // Of nine times the LETTER before, each of the others may stand between.
        leastAre(x, 0, 1, 10, 91, 820);
    }

    /** "NONE without one" */
    private static void withoutALeastOne() {
        WordWright x = ready(1);
        leastAre(x, 0, -1, -1, -1, -1);
        beneathAre(x, 0, 2, 4, 3, 2);
        leastAre(x, 0, -1, -1, -1, -1);
        // What needs itself alone, or each other in a ring, has none; a way out for one of them is one for all.
        beneathAre(x, 0, 3, 4, 5, 2);
        leastAre(x, 0, -1, -1, -1, -1);
        x.beneath(0, 2, x.make(5, 5, 6));
        leastAre(x, 0, 3, 2, 1, 4);
    }

    /** A LETTER may be needed for the next one, whichever comes first. */
    private static void leastByAllLetters() {
        WordWright x = ready(1);
        beneathAre(x, 0, 3, 4, 5, 6);
        leastAre(x, 0, 4, 3, 2, 1);
        beneathAre(x, 0, 6, 2, 3, 4);
        leastAre(x, 0, 1, 2, 3, 4);
        beneathAre(x, 0, 5, 2, 6, 4);
        leastAre(x, 0, 3, 4, 1, 2);
        // More LETTERS that need less: 1111 beneath a 0 is 5, but 2 is 11.
        int ten = Check.single(x, "33333333");
        beneathAre(x, 0, x.make(5, Check.single(x, "3333"), 4), 6, ten, 6);
        leastAre(x, 0, 5, 1, 9, 1);
    }

    /** "if each DOCUMENT that FITS it FITS that, too": of a SCHEMA that none FITS, each one is right. */
    private static void withinWithoutDocuments() {
        WordWright x = ready(2);
        Check.due(x, -1, "within 0 1");
        Check.due(x, -1, "within 0 0");
        beneathAre(x, 0, 2, 3, 4, 5);
        Check.due(x, -1, "within 0 1");
        x.beneath(0, 3, 1);
        Check.due(x, 3, "within 0 1");
        Check.due(x, -1, "within 1 0");
    }

    /** "NONE, if it is WITHIN that": itself, and ALL. */
    private static void withinItself() {
        WordWright x = Story.full().told();
        for (int s = 0; s < 4; s++) {
            Check.due(x, -1, "within " + s + " " + s);
        }
        for (int letter = 0; letter < 4; letter++) {
            x.beneath(3, letter, 1);
        }
        for (int s = 0; s < 4; s++) {
            Check.due(x, -1, "within " + s + " 3");
        }
        Check.due(x, 0, "within 3 0");
    }

    /** A DOCUMENT of one NODE is enough to be out of it. */
    private static void withinByTheBlankWordAlone() {
        for (int letter = 0; letter < 4; letter++) {
            WordWright x = ready(2);
            int some = x.make(7, 1, 6);
            for (int l = 0; l < 4; l++) {
                x.beneath(0, l, l == letter ? 1 : 0);
                x.beneath(1, l, l == letter ? some : 1);
            }
            Check.due(x, letter, "within 0 1");
            x.beneath(1, letter, 6);
            Check.due(x, letter, "within 0 1");
            x.beneath(0, letter, 6);
            Check.due(x, -1, "within 0 1");
        }
    }

    /** What may be beneath a LETTER in the other one alone is in no DOCUMENT that FITS the first one. */
    private static void withinByWhatIsInTheFirst() {
        for (int one = 0; one < 4; one++) {
            for (int other = 0; other < 4; other++) {
                WordWright x = ready(4);
                if (one != other) {
                    beneathAre(x, one, 6, x.make(5, 6, 2), 0, 0);
                    beneathAre(x, other, 1, 6, 1, 1);
                    Check.due(x, 1, "within " + one + " " + other);
                    x.beneath(one, 0, x.make(8, 3, 0));
                    Check.due(x, 0, "within " + one + " " + other);
                }
            }
        }
    }

    /** "(Here DOCUMENTS of any number of NODES count.)": the top is four levels above what is out of it. */
    private static void withinByFourLevels() {
        int[][] chains = {{0, 1, 2, 3}, {3, 2, 1, 0}, {2, 0, 3, 1}};
        for (int[] chain : chains) {
            WordWright x = ready(2);
            for (int s = 0; s < 2; s++) {
                for (int i = 0; i < 3; i++) {
                    x.beneath(s, chain[i], 2 + chain[i + 1]);
                }
                x.beneath(s, chain[3], s == 0 ? 1 : 6);
            }
            Check.due(x, 0, "within 0 1");
            Check.due(x, -1, "within 1 0");
            // Just the last one, and what is above it, is out of it.
            x.beneath(0, chain[0], 0);
            Check.due(x, chain[0] == 0 ? 1 : 0, "within 0 1");
        }
    }

    /** What is beneath may be longer than a PARENT in the DOCUMENT can have. */
    private static void withinByLongWords() {
        WordWright x = ready(2);
        int seven = x.make(8, Check.single(x, "1111111"), 0);
        int eight = x.make(8, Check.single(x, "11111111"), 0);
        x.beneath(0, 1, 6);
        x.beneath(1, 1, 6);
        x.beneath(0, 3, x.make(7, seven, 6));
        x.beneath(1, 3, x.make(7, 1, eight));
        // A 3 with 56 beneath it.
        Check.due(x, 3, "within 0 1");
        x.beneath(0, 3, seven);
        x.beneath(1, 3, x.make(8, 3, 0));
        Check.due(x, -1, "within 0 1");
        Check.due(x, 3, "within 1 0");
    }
}
