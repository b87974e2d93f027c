/** Promises 21 to 26: SCHEMAS and the DOCUMENT. */
public final class SchemasTest {
    private static final Class<IllegalArgumentException> ARGUMENT = IllegalArgumentException.class;
    private static final Class<IllegalStateException> STATE = IllegalStateException.class;
    private static final Class<IndexOutOfBoundsException> INDEX = IndexOutOfBoundsException.class;

    public static void main(String[] args) {
        promise21Schema();
        promise22Beneath();
        promise23Node();
        promise24Misfit();
        promise25Least();
        promise26Within();
        Check.end("SchemasTest");
    }

    private static void promise21Schema() {
        WordWright x = new WordWright();
        for (int i = 0; i < 4; i++) {
            int number = i;
            Check.due(number, "schema()", x::schema);
            Check.due(-1, "least of a new one", () -> x.least(number, 3));
        }
        Check.refused(x, STATE, "schema() with 4", x::schema);
        Check.due(4, "many(5)", () -> x.many(5));
    }

    private static void promise22Beneath() {
        WordWright x = Check.lettered();
        x.schema();
        x.schema();
        Check.due(0, "beneath(0, 0, 1)", () -> x.beneath(0, 0, 1));
        Check.due(0, "beneath(0, 3, 5)", () -> x.beneath(0, 3, 5));
        Check.due(1, "beneath(0, 0, 2)", () -> x.beneath(0, 0, 2));
        Check.due(0, "beneath(1, 0, 2)", () -> x.beneath(1, 0, 2));
        Check.refused(x, ARGUMENT, "beneath(0, 0, 6)", () -> x.beneath(0, 0, 6));
        Check.refused(x, ARGUMENT, "beneath(0, 0, -1)", () -> x.beneath(0, 0, -1));
        Check.refused(x, INDEX, "beneath(2, 0, 6)", () -> x.beneath(2, 0, 6));
        Check.refused(x, INDEX, "beneath(-1, 0, 0)", () -> x.beneath(-1, 0, 0));
        Check.refused(x, INDEX, "beneath(0, 4, 6)", () -> x.beneath(0, 4, 6));
        Check.refused(x, INDEX, "beneath(0, -1, 0)", () -> x.beneath(0, -1, 0));
        Check.due(2, "beneath as it was", () -> x.beneath(0, 0, 0));
    }

    private static void promise23Node() {
        WordWright x = new WordWright();
        Check.refused(x, INDEX, "node(0, 0) without any", () -> x.node(0, 0));
        Check.refused(x, INDEX, "node(-2, 0)", () -> x.node(-2, 0));
        Check.refused(x, INDEX, "node(-1, 4)", () -> x.node(-1, 4));
        Check.refused(x, INDEX, "node(-1, -1)", () -> x.node(-1, -1));
        Check.due(0, "node(-1, 2)", () -> x.node(-1, 2));
        for (int i = 1; i <= 10; i++) {
            int number = i;
            Check.due(number, "node(0, 1)", () -> x.node(0, 1));
        }
        Check.refused(x, STATE, "node beneath a PARENT with 10", () -> x.node(0, 1));
        Check.refused(x, INDEX, "node of no LETTER beneath that", () -> x.node(0, 4));
        for (int i = 11; i < 30; i++) {
            int number = i;
            Check.due(number, "node(" + (i - 1) + ", 3)", () -> x.node(number - 1, 3));
        }
        Check.refused(x, STATE, "node with 30", () -> x.node(29, 0));
        Check.refused(x, INDEX, "node(30, 0)", () -> x.node(30, 0));
        Check.due(30, "many(6)", () -> x.many(6));
        Check.due(0, "node(-1, 0) with 30", () -> x.node(-1, 0));
        Check.due(1, "many(6)", () -> x.many(6));
        Check.due(1, "node(0, 0)", () -> x.node(0, 0));
        Check.refused(x, INDEX, "node(2, 0)", () -> x.node(2, 0));
    }

    private static void promise24Misfit() {
        WordWright x = Check.lettered();
        int blank = x.make(1, 0, 0);
        Check.refused(x, INDEX, "misfit(0) without a SCHEMA", () -> x.misfit(0));
        x.schema();
        Check.refused(x, STATE, "misfit(0) without a NODE", () -> x.misfit(0));
        Check.refused(x, INDEX, "misfit(-1)", () -> x.misfit(-1));
        Check.refused(x, INDEX, "misfit(1)", () -> x.misfit(1));
        x.beneath(0, 0, Check.single(x, "121"));
        x.beneath(0, 1, x.make(8, 4, 0));
        x.beneath(0, 2, blank);
        x.node(-1, 0);
        Check.due(0, "misfit of what lacks", () -> x.misfit(0));
        x.node(0, 1);
        x.node(0, 2);
        x.node(1, 2);
        x.node(1, 2);
        Check.due(0, "misfit of what lacks one", () -> x.misfit(0));
        x.node(0, 1);
        Check.due(-1, "misfit of what FITS", () -> x.misfit(0));
        x.node(5, 2);
        Check.due(-1, "misfit of what FITS", () -> x.misfit(0));
        x.node(6, 2);
        Check.due(6, "misfit beneath a 2", () -> x.misfit(0));
        x.node(2, 0);
        Check.due(2, "misfit of the first by number", () -> x.misfit(0));
        x.node(0, 1);
        Check.due(0, "misfit of one too many", () -> x.misfit(0));
        x.node(-1, 2);
        Check.due(-1, "misfit of a new DOCUMENT", () -> x.misfit(0));
        x.node(-1, 3);
        Check.due(0, "misfit with nothing beneath a 3", () -> x.misfit(0));
        x.schema();
        x.beneath(1, 3, 1);
        Check.due(-1, "misfit of another SCHEMA", () -> x.misfit(1));
    }

    private static void promise25Least() {
        WordWright x = Check.lettered();
        int blank = x.make(1, 0, 0);
        x.schema();
        x.beneath(0, 0, blank);
        x.beneath(0, 1, Check.single(x, "00000000"));
        x.beneath(0, 2, Check.single(x, "11111111"));
        x.beneath(0, 3, Check.single(x, "22222222"));
        leastIs(x, 0, 1, 9, 73, 585);
        // Fewer LETTERS are not fewer NODES; what is beneath itself alone has no end.
        x.beneath(0, 3, x.make(5, 4, Check.single(x, "0100")));
        leastIs(x, 0, 1, 9, 73, 13);
        x.beneath(0, 0, 2);
        leastIs(x, 0, -1, -1, -1, -1);
        x.beneath(0, 0, x.make(5, 2, Check.single(x, "33")));
        x.beneath(0, 3, x.make(5, blank, 2));
        leastIs(x, 0, 3, 25, 201, 1);
        x.beneath(0, 3, x.make(5, Check.single(x, "01"), 2));
        leastIs(x, 0, -1, -1, -1, -1);
        x.beneath(0, 3, 1);
        x.beneath(0, 1, 0);
        leastIs(x, 0, 3, -1, -1, 1);
        // Each LETTER needs the next one.
        x.beneath(0, 0, 3);
        x.beneath(0, 1, 4);
        x.beneath(0, 2, 5);
        x.beneath(0, 3, blank);
        leastIs(x, 0, 4, 3, 2, 1);
        x.beneath(0, 0, blank);
        x.beneath(0, 1, 2);
        x.beneath(0, 2, 3);
        x.beneath(0, 3, 4);
        leastIs(x, 0, 1, 2, 3, 4);
        Check.refused(x, INDEX, "least(1, 0)", () -> x.least(1, 0));
        Check.refused(x, INDEX, "least(-1, 0)", () -> x.least(-1, 0));
        Check.refused(x, INDEX, "least(0, 4)", () -> x.least(0, 4));
        Check.refused(x, INDEX, "least(0, -1)", () -> x.least(0, -1));
    }

    private static void leastIs(WordWright x, int schema, int... want) {
        for (int letter = 0; letter < 4; letter++) {
            int l = letter;
            Check.due(want[letter], "least(" + schema + ", " + letter + ")", () -> x.least(schema, l));
        }
    }

    private static void promise26Chains() {
        WordWright x = Check.lettered();
        int blank = x.make(1, 0, 0);
        for (int schema = 0; schema < 2; schema++) {
            x.schema();
            x.beneath(schema, 0, 3);
            x.beneath(schema, 1, 4);
            x.beneath(schema, 2, x.make(5, 5, blank));
            x.beneath(schema, 3, blank);
        }
        Check.due(-1, "within(0, 1)", () -> x.within(0, 1));
        x.beneath(0, 3, x.make(5, 5, blank));
        Check.due(0, "within(0, 1) by a chain", () -> x.within(0, 1));
        // A 1 goes astray; beneath a 0 it can only stand ahead of, or behind, what is not possible.
        x.beneath(0, 3, 0);
        x.beneath(0, 2, 0);
        x.beneath(0, 1, blank);
        x.beneath(1, 1, 0);
        int ahead = x.make(5, blank, Check.single(x, "12"));
        int both = x.make(5, ahead, Check.single(x, "21"));
        for (int content : new int[] {ahead, both}) {
            x.beneath(0, 0, content);
            x.beneath(1, 0, content);
            Check.due(1, "within(0, 1)", () -> x.within(0, 1));
        }
        x.beneath(0, 2, blank);
        x.beneath(1, 2, blank);
        Check.due(0, "within(0, 1), now that it is possible", () -> x.within(0, 1));
    }

    private static void promise26Within() {
        WordWright x = Check.lettered();
        int blank = x.make(1, 0, 0);
        x.schema();
        x.schema();
        Check.due(-1, "within of SCHEMAS without DOCUMENTS", () -> x.within(0, 1));
        x.beneath(0, 3, blank);
        Check.due(3, "within(0, 1)", () -> x.within(0, 1));
        Check.due(-1, "within(1, 0)", () -> x.within(1, 0));
        x.beneath(1, 3, 1);
        Check.due(-1, "within(0, 1)", () -> x.within(0, 1));
        Check.due(3, "within(1, 0)", () -> x.within(1, 0));
        // Beneath 3 a 2 would be right in the first, but there is no DOCUMENT with a 2 at the top.
        x.beneath(0, 3, x.make(5, blank, 4));
        x.beneath(1, 3, blank);
        Check.due(-1, "within(0, 1)", () -> x.within(0, 1));
        // With 2 there is; then 1 and 0 go astray through 3, too.
        x.beneath(0, 2, blank);
        x.beneath(1, 2, blank);
        Check.due(3, "within(0, 1)", () -> x.within(0, 1));
        x.beneath(0, 1, 5);
        x.beneath(1, 1, 5);
        Check.due(1, "within(0, 1)", () -> x.within(0, 1));
        x.beneath(0, 0, x.make(8, 3, 0));
        x.beneath(1, 0, 1);
        Check.due(0, "within(0, 1)", () -> x.within(0, 1));
        Check.due(0, "within(1, 0)", () -> x.within(1, 0));
        Check.due(-1, "within(0, 0)", () -> x.within(0, 0));
        // A LETTER that goes astray, in a WORD that needs one that is not possible, does no harm.
        x.beneath(0, 0, Check.single(x, "10"));
        x.beneath(1, 0, Check.single(x, "10"));
        Check.due(1, "within(0, 1)", () -> x.within(0, 1));
        promise26Chains();
        Check.refused(x, INDEX, "within(2, 0)", () -> x.within(2, 0));
        Check.refused(x, INDEX, "within(0, 2)", () -> x.within(0, 2));
        Check.refused(x, INDEX, "within(-1, 0)", () -> x.within(-1, 0));
        Check.refused(x, INDEX, "within(0, -1)", () -> x.within(0, -1));
    }
}
