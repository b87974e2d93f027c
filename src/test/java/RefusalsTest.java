/**
 * Each refused call of each promise: it throws just what the document names (what is named first, if several apply), and
 * changes nothing. Beside it stand the arguments that are just allowed. MIN and MAX are the ends of the range of an int.
 */
public final class RefusalsTest {
    private static final Class<IllegalArgumentException> ARGUMENT = IllegalArgumentException.class;
    private static final Class<IllegalStateException> STATE = IllegalStateException.class;
    private static final Class<IndexOutOfBoundsException> INDEX = IndexOutOfBoundsException.class;
    private static final Class<ArithmeticException> ARITHMETIC = ArithmeticException.class;

    private static final Story EMPTY = Story.empty();
    private static final Story BEGUN = Story.begun();
    private static final Story FULL = Story.full();
    private static final Story[] ALL = {EMPTY, BEGUN, FULL};

    public static void main(String[] args) {
        fullIsFull();
        promises2And33Kinds();
        promises2And33Letters();
        promises2And33Languages();
        promises2And33Machines();
        promises2And33Zeros();
        promise2State();
        promise3OfLanguage();
        promise4Next();
        promise5Has();
        promise6HowMany();
        promise7Beyond();
        promise8Machine();
        promise9Arc();
        promise9ArcWithTen();
        promise10Finals();
        promise11Writes();
        promise12Several();
        promise13Loop();
        promise14Breaks();
        promise15Domain();
        promise16Equation();
        promise17Symbol();
        promise17SymbolWithSix();
        promise18Undo();
        promise19Solved();
        promise21Schema();
        promise22Beneath();
        promise23Node();
        promise23NodeWithAll();
        promise24Misfit();
        promise25Least();
        promise26Within();
        promise27Sorts();
        promise27Strings();
        promise27LanguagesAndMachines();
        promise27Targets();
        promise27Zeros();
        promise27StepWithTen();
        promise29Span();
        promise30Bad();
        promise31Many();
        promise34SolutionsWith();
        Check.end("RefusalsTest");
    }

    private static void refused(Class<? extends RuntimeException> want, String... calls) {
        for (Story story : ALL) {
            Check.refused(story, want, calls);
        }
    }

    private static void allowed(String... calls) {
        for (Story story : ALL) {
            Check.allowed(story, calls);
        }
    }

    /** The same of make() and of wouldSize(). */
    private static void refusedKinds(Story story, String... arguments) {
        for (String a : arguments) {
            Check.refused(story, ARGUMENT, "make " + a, "wouldSize " + a);
        }
    }

    private static void fullIsFull() {
        WordWright x = FULL.told();
        int[] due = {40, 6, 60, 4, 48, 4, 30, 10};
        for (int what = 0; what < due.length; what++) {
            Check.due(x, due[what], "many " + what);
        }
    }

    /** "if kind is not 0 to 13" */
    private static void promises2And33Kinds() {
        for (Story story : ALL) {
            refusedKinds(story, "-1 0 0", "14 0 0", "MIN 0 0", "MAX 0 0", "-2 1 1", "15 1 1");
        }
        Check.allowed(BEGUN, "make 0 0 0", "make 13 0 0");
        allowed("wouldSize 0 0 0");
        Check.allowed(BEGUN, "wouldSize 13 0 0");
        Check.allowed(FULL, "wouldSize 13 5 0");
    }

    /** "there is no such LETTER" */
    private static void promises2And33Letters() {
        for (Story story : ALL) {
            refusedKinds(story, "2 -1 0", "2 4 0", "2 MIN 0", "2 MAX 0");
        }
        allowed("make 2 0 0", "make 2 3 0", "wouldSize 2 0 0", "wouldSize 2 3 0");
    }

    /** "there is no such LANGUAGE" */
    private static void promises2And33Languages() {
        for (Story story : ALL) {
            for (int kind = 4; kind <= 7; kind++) {
                for (String wrong : new String[] {"-1", "LANGUAGES", "MIN", "MAX"}) {
                    refusedKinds(story, kind + " " + wrong + " 0", kind + " 0 " + wrong, kind + " " + wrong + " " + wrong);
                }
                Check.allowed(story, "wouldSize " + kind + " 0 LANGUAGES-1", "wouldSize " + kind + " LANGUAGES-1 0");
            }
            for (int kind = 8; kind <= 10; kind++) {
                refusedKinds(story, kind + " -1 0", kind + " LANGUAGES 0", kind + " MIN 0", kind + " MAX 0");
                Check.allowed(story, "wouldSize " + kind + " 0 0", "wouldSize " + kind + " LANGUAGES-1 0");
            }
        }
        for (int kind = 11; kind <= 12; kind++) {
            for (Story story : new Story[] {BEGUN, FULL}) {
                refusedKinds(story, kind + " 0 -1", kind + " 0 LANGUAGES", kind + " 0 MIN", kind + " 0 MAX");
                Check.allowed(story, "wouldSize " + kind + " 0 0", "wouldSize " + kind + " 0 LANGUAGES-1");
            }
        }
    }

    /** "there is no such MACHINE" */
    private static void promises2And33Machines() {
        for (int kind = 11; kind <= 13; kind++) {
            refusedKinds(EMPTY, kind + " 0 0");
            for (Story story : ALL) {
                refusedKinds(story, kind + " -1 0", kind + " MACHINES 0", kind + " MIN 0", kind + " MAX 0");
            }
            Check.allowed(BEGUN, "wouldSize " + kind + " 0 0", "wouldSize " + kind + " MACHINES-1 0");
            Check.allowed(FULL, "wouldSize " + kind + " 0 0", "wouldSize " + kind + " MACHINES-1 0");
            // As many LANGUAGES there are, a MACHINE by that number is none.
            refusedKinds(BEGUN, kind + " 2 0", kind + " LANGUAGES-1 0");
        }
    }

    /** "a or b is not 0 where it is not said" */
    private static void promises2And33Zeros() {
        for (String wrong : new String[] {"1", "-1", "MIN", "MAX"}) {
            for (Story story : ALL) {
                for (int kind : new int[] {0, 1, 3}) {
                    refusedKinds(story, kind + " " + wrong + " 0", kind + " 0 " + wrong, kind + " " + wrong + " " + wrong);
                }
                refusedKinds(story, "2 0 " + wrong, "8 0 " + wrong, "9 0 " + wrong, "10 0 " + wrong);
            }
            refusedKinds(BEGUN, "13 0 " + wrong);
            refusedKinds(FULL, "13 0 " + wrong);
        }
    }

    /** "if it would have more than 10 STATES, or, if it is not there already, there are 40" */
    private static void promise2State() {
        Story eight = new Story("with a WORD of eight LETTERS").then("make 2 1 0", "make 4 2 2", "make 4 3 3", "make 4 4 4");
        Check.refused(eight, STATE, "make 4 5 2", "make 4 2 5", "make 4 5 5");
        Check.allowed(eight, "make 4 5 0", "make 4 5 1", "wouldSize 4 5 2");
        Check.refused(FULL, STATE, "make 4 2 7", "make 5 2 3", "make 7 1 2", "make 10 7 0");
        Check.allowed(FULL, "make 0 0 0", "make 1 0 0", "make 2 3 0", "make 3 0 0", "make 4 5 5", "make 5 7 8", "make 8 22 0",
            "make 9 22 0");
        // The argument is named first.
        refusedKinds(FULL, "14 0 0", "2 4 0", "4 2 LANGUAGES", "5 40 3", "7 1 40", "11 6 0", "13 6 0", "1 1 0");
        refusedKinds(eight, "4 5 6", "4 6 5", "14 5 5");
    }

    /** "if there is no such LANGUAGE"; "if what is not 0 to 5" */
    private static void promise3OfLanguage() {
        refused(INDEX, "ofLanguage -1 0", "ofLanguage LANGUAGES 0", "ofLanguage MIN 0", "ofLanguage MAX 5");
        refused(ARGUMENT, "ofLanguage 0 -1", "ofLanguage 0 6", "ofLanguage 1 MIN", "ofLanguage LANGUAGES-1 MAX");
        refused(INDEX, "ofLanguage -1 6", "ofLanguage LANGUAGES -1", "ofLanguage MAX MIN");
        allowed("ofLanguage 0 0", "ofLanguage 0 5", "ofLanguage LANGUAGES-1 0", "ofLanguage LANGUAGES-1 5");
    }

    /** "if there is no such LANGUAGE, STATE, or LETTER" */
    private static void promise4Next() {
        refused(INDEX, "next -1 0 0", "next LANGUAGES 0 0", "next MIN 0 0", "next MAX 0 0", "next 0 -1 0", "next 0 1 0",
            "next 1 1 0", "next 0 MIN 0", "next 0 MAX 0", "next 0 0 -1", "next 0 0 4", "next 0 0 MIN", "next 0 0 MAX",
            "next -1 -1 -1", "next LANGUAGES 10 4");
        Check.refused(BEGUN, INDEX, "next 2 3 0", "next 4 4 0", "next 4 -1 0", "next 4 10 3");
        Check.allowed(BEGUN, "next 2 2 3", "next 4 3 3", "next 4 0 0");
        allowed("next 0 0 0", "next 0 0 3");
    }

    /** "if there is no such LANGUAGE"; "if word is none" */
    private static void promise5Has() {
        refused(INDEX, "has -1 1", "has LANGUAGES 1", "has MIN 1", "has MAX 1");
        refused(ARGUMENT, "has 0 0", "has 0 -1", "has 1 2", "has 1 3", "has 1 8", "has 1 15", "has 1 32", "has 0 MIN",
            "has 0 MAX", "has 1 1048575", "has 1 2097152", "has 1 4194303", "has 1 4194304", "has 1 -4");
        refused(INDEX, "has -1 0", "has LANGUAGES 2", "has MAX MIN");
        allowed("has 0 1", "has 0 4", "has 0 7", "has 1 1048576", "has LANGUAGES-1 2097151");
    }

    /** "if there is no such LANGUAGE"; "if letters is not 0 to 12" */
    private static void promise6HowMany() {
        refused(INDEX, "howMany -1 0", "howMany LANGUAGES 12", "howMany MIN 0", "howMany MAX 0");
        refused(ARGUMENT, "howMany 0 -1", "howMany 1 13", "howMany 0 MIN", "howMany 1 MAX");
        refused(INDEX, "howMany -1 -1", "howMany LANGUAGES 13");
        allowed("howMany 0 0", "howMany 1 12", "howMany LANGUAGES-1 12");
    }

    /** "if there is no such LANGUAGE"; "if the least one has more than 10 LETTERS" */
    private static void promise7Beyond() {
        refused(INDEX, "beyond -1 0", "beyond 0 -1", "beyond LANGUAGES 0", "beyond 0 LANGUAGES", "beyond MIN 0", "beyond 0 MIN",
            "beyond MAX 0", "beyond 0 MAX", "beyond -1 LANGUAGES");
        allowed("beyond 0 0", "beyond LANGUAGES-1 0", "beyond 0 LANGUAGES-1", "beyond LANGUAGES-1 LANGUAGES-1");
        Story eleven = new Story("with 4, and 4 and sevens").then("make 2 0 0", "make 4 2 2", "make 4 3 3", "make 4 4 3",
            "make 4 5 2", "make 8 6 0", "make 8 4 0", "make 4 4 7", "make 8 5 0", "make 4 4 10");
        // 8 is of fours; 9 of 4, 11, 18 ..; 11 of 4, 10, 16 ..
        Check.refused(eleven, ARITHMETIC, "beyond 9 8");
        Check.allowed(eleven, "beyond 11 8", "beyond 8 9");
        Check.refused(eleven, INDEX, "beyond 9 12", "beyond 12 8");
    }

    /** "if there are 6" */
    private static void promise8Machine() {
        Check.refused(FULL, STATE, "machine");
        Check.allowed(BEGUN, "machine");
        Story five = new Story("with five MACHINES").then("machine", "machine", "machine", "machine", "machine");
        Check.allowed(five, "machine");
    }

    /** "if there is no such MACHINE"; "if from or to is not 0 to 3, or letter or out is no LETTER (but NONE for out)" */
    private static void promise9Arc() {
        refused(INDEX, "arc -1 0 0 0 0", "arc MACHINES 0 0 0 0", "arc MIN 0 0 0 0", "arc MAX 0 0 0 0");
        Check.refused(EMPTY, INDEX, "arc 0 0 0 0 0", "arc 0 4 4 4 4");
        Check.refused(BEGUN, ARGUMENT, "arc 0 -1 0 0 0", "arc 0 4 0 0 0", "arc 0 MIN 0 0 0", "arc 0 MAX 0 0 0",
            "arc 1 0 -1 0 0", "arc 1 0 4 0 0", "arc 1 0 MIN 0 0", "arc 1 0 MAX 0 0", "arc 0 0 0 -1 0", "arc 0 0 0 4 0",
            "arc 0 0 0 MIN 0", "arc 0 0 0 MAX 0", "arc 1 0 0 0 -2", "arc 1 0 0 0 4", "arc 1 0 0 0 MIN", "arc 1 0 0 0 MAX");
        refused(INDEX, "arc -1 4 0 0 0", "arc MACHINES 0 4 0 0", "arc MACHINES 0 0 -1 0", "arc MACHINES 0 0 0 -2");
        Check.allowed(BEGUN, "arc 0 0 0 0 -1", "arc 0 0 0 0 0", "arc 0 3 3 3 3", "arc MACHINES-1 3 0 3 -1");
    }

    /** "if there are 10" */
    private static void promise9ArcWithTen() {
        Check.refused(FULL, STATE, "arc 0 0 0 0 0", "arc 5 3 3 3 -1");
        Check.refused(FULL, ARGUMENT, "arc 0 4 0 0 0", "arc 0 0 4 0 0", "arc 0 0 0 4 0", "arc 0 0 0 0 4", "arc 5 0 0 0 -2");
        Check.refused(FULL, INDEX, "arc 6 0 0 0 0", "arc 6 4 4 4 4", "arc -1 4 4 4 4");
        Story nine = new Story("with nine ARCS").then("machine");
        for (int i = 0; i < 9; i++) {
            nine.then("arc 0 0 0 0 0");
        }
        Check.allowed(nine, "arc 0 0 0 0 0");
    }

    /** "if there is no such MACHINE"; "if finals is not 0 to 15" */
    private static void promise10Finals() {
        refused(INDEX, "finals -1 0", "finals MACHINES 15", "finals MIN 0", "finals MAX 0");
        Check.refused(EMPTY, INDEX, "finals 0 0");
        Check.refused(BEGUN, ARGUMENT, "finals 0 -1", "finals 0 16", "finals 1 MIN", "finals 1 MAX");
        Check.refused(FULL, ARGUMENT, "finals 5 -1", "finals 5 16");
        refused(INDEX, "finals -1 -1", "finals MACHINES 16", "finals MAX MIN");
        Check.allowed(BEGUN, "finals 0 0", "finals 0 15", "finals MACHINES-1 15");
    }

    /** "if there is no such MACHINE"; "if word is none, or has more than 5 LETTERS, or k is below 0" */
    private static void promise11Writes() {
        refused(INDEX, "writes -1 1 0", "writes MACHINES 1 0", "writes MIN 1 0", "writes MAX 1 0");
        Check.refused(EMPTY, INDEX, "writes 0 1 0");
        Story[] stories = {BEGUN, FULL};
        for (Story story : stories) {
            Check.refused(story, ARGUMENT, "writes 0 0 0", "writes 0 -1 0", "writes 0 2 0", "writes 0 3 0", "writes 0 8 0",
                "writes 0 15 0", "writes 0 1023 0", "writes 0 2048 0", "writes 0 MIN 0", "writes 0 MAX 0");
            Check.refused(story, ARGUMENT, "writes 0 4096 0", "writes 0 8191 0", "writes 0 1048576 0", "writes 0 2097151 0");
            Check.refused(story, ARGUMENT, "writes 0 1 -1", "writes 0 1 MIN", "writes 0 0 -1", "writes 0 4096 -1");
            Check.allowed(story, "writes 0 1 0", "writes 0 1024 0", "writes 0 2047 0", "writes 0 1 MAX", "writes MACHINES-1 1 0");
        }
        refused(INDEX, "writes -1 0 0", "writes MACHINES 4096 0", "writes MACHINES 1 -1", "writes MAX MIN MIN");
    }

    /** "if there is no such MACHINE"; "if letters is not 0 to 4" */
    private static void promise12Several() {
        refused(INDEX, "several -1 0", "several MACHINES 4", "several MIN 0", "several MAX 0");
        Check.refused(EMPTY, INDEX, "several 0 0");
        Check.refused(BEGUN, ARGUMENT, "several 0 -1", "several 0 5", "several 1 MIN", "several 1 MAX");
        Check.refused(FULL, ARGUMENT, "several 5 -1", "several 5 5");
        refused(INDEX, "several -1 5", "several MACHINES -1");
        Check.allowed(BEGUN, "several 0 0", "several MACHINES-1 4");
    }

    /** "if there is no such MACHINE"; "if what is not 0 or 1" */
    private static void promise13Loop() {
        refused(INDEX, "loop -1 0", "loop MACHINES 1", "loop MIN 0", "loop MAX 0");
        Check.refused(EMPTY, INDEX, "loop 0 0");
        Check.refused(BEGUN, ARGUMENT, "loop 0 -1", "loop 0 2", "loop 1 MIN", "loop 1 MAX");
        Check.refused(FULL, ARGUMENT, "loop 5 -1", "loop 5 2");
        refused(INDEX, "loop -1 2", "loop MACHINES -1");
        Check.allowed(BEGUN, "loop 0 0", "loop MACHINES-1 1");
    }

    /** "if there is no such MACHINE, or LANGUAGE"; "if the least one has more than 10 LETTERS" */
    private static void promise14Breaks() {
        refused(INDEX, "breaks -1 0 0", "breaks MACHINES 0 0", "breaks MIN 0 0", "breaks MAX 0 0", "breaks -1 -1 -1");
        Check.refused(EMPTY, INDEX, "breaks 0 0 0");
        for (Story story : new Story[] {BEGUN, FULL}) {
            Check.refused(story, INDEX, "breaks 0 -1 0", "breaks 0 LANGUAGES 0", "breaks 0 MIN 0", "breaks 0 MAX 0",
                "breaks 0 0 -1", "breaks 0 0 LANGUAGES", "breaks 0 0 MIN", "breaks 0 0 MAX");
            Check.allowed(story, "breaks 0 0 0", "breaks MACHINES-1 LANGUAGES-1 LANGUAGES-1");
        }
        Story eleven = new Story("with a MACHINE that copies").then("make 2 0 0", "make 4 2 2", "make 4 3 3", "make 4 4 3",
            "make 4 5 2", "make 8 6 0", "make 8 4 0", "make 4 4 7", "machine", "arc 0 0 0 0 0", "finals 0 1");
        Check.refused(eleven, ARITHMETIC, "breaks 0 9 8");
        Check.refused(eleven, INDEX, "breaks 1 9 8", "breaks 0 9 10", "breaks 0 10 8");
    }

    /** "if there is no such VARIABLE"; "if there is no such LANGUAGE, or most is not 0 to 2" */
    private static void promise15Domain() {
        refused(INDEX, "domain -1 0 0", "domain 4 0 0", "domain MIN 0 0", "domain MAX 0 0");
        refused(ARGUMENT, "domain 0 -1 0", "domain 0 LANGUAGES 0", "domain 3 MIN 0", "domain 3 MAX 0", "domain 0 1 -1",
            "domain 0 1 3", "domain 3 1 MIN", "domain 3 1 MAX", "domain 0 -1 -1");
        refused(INDEX, "domain 4 LANGUAGES 0", "domain -1 0 3", "domain 4 -1 -1");
        allowed("domain 0 0 0", "domain 3 LANGUAGES-1 2");
    }

    /** "if there are 4" */
    private static void promise16Equation() {
        Check.refused(FULL, STATE, "equation");
        Story three = new Story("with three EQUATIONS").then("equation", "equation", "equation");
        Check.allowed(three, "equation");
    }

    /** "if there is no such EQUATION"; "if side is not 0 or 1, or symbol is none" */
    private static void promise17Symbol() {
        refused(INDEX, "symbol -1 0 0", "symbol EQUATIONS 0 0", "symbol MIN 0 0", "symbol MAX 0 0");
        Check.refused(EMPTY, INDEX, "symbol 0 0 0");
        Check.refused(BEGUN, ARGUMENT, "symbol 0 -1 0", "symbol 0 2 0", "symbol 0 MIN 0", "symbol 0 MAX 0", "symbol 1 0 -1",
            "symbol 1 0 4", "symbol 1 0 9", "symbol 1 0 14", "symbol 1 0 MIN", "symbol 1 0 MAX", "symbol 1 1 -10",
            "symbol 1 1 -2147483638", "symbol 0 2 4");
        refused(INDEX, "symbol -1 2 0", "symbol EQUATIONS 0 4", "symbol EQUATIONS -1 14");
        Check.allowed(BEGUN, "symbol 0 0 0", "symbol 0 1 3", "symbol 0 0 10", "symbol EQUATIONS-1 1 13");
    }

    /** "if the SIDE has 6" */
    private static void promise17SymbolWithSix() {
        Check.refused(FULL, STATE, "symbol 0 0 0", "symbol 0 1 13", "symbol 3 0 10", "symbol 3 1 3");
        Check.refused(FULL, ARGUMENT, "symbol 0 2 0", "symbol 0 -1 0", "symbol 3 0 4", "symbol 3 1 14");
        Check.refused(FULL, INDEX, "symbol 4 0 0", "symbol 4 2 14", "symbol -1 0 0");
        Story five = new Story("with five SYMBOLS").then("equation", "symbol 0 1 0", "symbol 0 1 1", "symbol 0 1 2",
            "symbol 0 1 3", "symbol 0 1 10");
        Check.allowed(five, "symbol 0 1 11", "symbol 0 0 11");
        Check.refused(five.then("symbol 0 1 12"), STATE, "symbol 0 1 11");
    }

    /** "if there is none" */
    private static void promise18Undo() {
        Check.refused(EMPTY, STATE, "undo");
        Check.refused(new Story("with one taken away").then("equation", "undo"), STATE, "undo");
        Check.allowed(new Story("with one EQUATION").then("equation"), "undo");
        Check.allowed(FULL, "undo");
    }

    /** "if there is no such VARIABLE" */
    private static void promise19Solved() {
        refused(INDEX, "solved -1", "solved 4", "solved MIN", "solved MAX");
        allowed("solved 0", "solved 3");
    }

    /** "if there are 4" */
    private static void promise21Schema() {
        Check.refused(FULL, STATE, "schema");
        Check.allowed(new Story("with three SCHEMAS").then("schema", "schema", "schema"), "schema");
    }

    /** "if there is no such SCHEMA, or LETTER"; "if there is no such LANGUAGE" */
    private static void promise22Beneath() {
        refused(INDEX, "beneath -1 0 0", "beneath SCHEMAS 0 0", "beneath MIN 0 0", "beneath MAX 0 0");
        Check.refused(EMPTY, INDEX, "beneath 0 0 0");
        for (Story story : new Story[] {BEGUN, FULL}) {
            Check.refused(story, INDEX, "beneath 0 -1 0", "beneath 0 4 0", "beneath 1 MIN 0", "beneath 1 MAX 0");
            Check.refused(story, ARGUMENT, "beneath 0 0 -1", "beneath 1 3 LANGUAGES", "beneath 0 0 MIN", "beneath 0 0 MAX");
            Check.refused(story, INDEX, "beneath SCHEMAS 0 LANGUAGES", "beneath 0 4 -1", "beneath -1 -1 -1");
            Check.allowed(story, "beneath 0 0 0", "beneath SCHEMAS-1 3 LANGUAGES-1");
        }
    }

    /** "if there is no such PARENT (but NONE), or LETTER" */
    private static void promise23Node() {
        refused(INDEX, "node -2 0", "node NODES 0", "node MIN 0", "node MAX 0", "node -1 -1", "node -1 4", "node -1 MIN",
            "node -1 MAX", "node NODES 4");
        Check.refused(EMPTY, INDEX, "node 0 0");
        Check.refused(BEGUN, INDEX, "node 0 -1", "node 2 4", "node 0 MIN", "node 0 MAX", "node 3 0");
        Check.allowed(BEGUN, "node 0 0", "node NODES-1 3", "node -1 0", "node -1 3");
        Check.allowed(EMPTY, "node -1 0", "node -1 3");
    }

    /** "if there are 30, or 10 beneath the PARENT (never with NONE)" */
    private static void promise23NodeWithAll() {
        Check.refused(FULL, STATE, "node 0 0", "node 2 0", "node 29 3");
        Check.refused(FULL, INDEX, "node 0 4", "node 30 0", "node -2 0", "node 29 -1");
        Check.allowed(FULL, "node -1 0", "node -1 3");
        Story ten = new Story("with ten beneath the NODE 0").then("node -1 0");
        for (int i = 0; i < 10; i++) {
            Check.allowed(ten, "node 0 1");
            ten.then("node 0 1");
        }
        Check.refused(ten, STATE, "node 0 0", "node 0 3");
        Check.refused(ten, INDEX, "node 0 4", "node 11 0");
        Check.allowed(ten, "node 1 0", "node 10 0", "node -1 0");
    }

    /** "if there is no such SCHEMA"; "if there is no NODE" */
    private static void promise24Misfit() {
        refused(INDEX, "misfit -1", "misfit SCHEMAS", "misfit MIN", "misfit MAX");
        Check.refused(EMPTY, INDEX, "misfit 0");
        Story noNode = new Story("with a SCHEMA and no NODE").then("schema");
        Check.refused(noNode, STATE, "misfit 0");
        Check.refused(noNode, INDEX, "misfit 1", "misfit -1");
        Check.allowed(BEGUN, "misfit 0", "misfit SCHEMAS-1");
    }

    /** "if there is no such SCHEMA, or LETTER" */
    private static void promise25Least() {
        refused(INDEX, "least -1 0", "least SCHEMAS 0", "least MIN 0", "least MAX 3");
        Check.refused(EMPTY, INDEX, "least 0 0");
        Check.refused(BEGUN, INDEX, "least 0 -1", "least 0 4", "least 1 MIN", "least 1 MAX", "least SCHEMAS 4");
        Check.allowed(BEGUN, "least 0 0", "least SCHEMAS-1 3");
    }

    /** "if there is no such SCHEMA" */
    private static void promise26Within() {
        refused(INDEX, "within -1 -1", "within SCHEMAS SCHEMAS");
        Check.refused(EMPTY, INDEX, "within 0 0");
        for (Story story : new Story[] {BEGUN, FULL}) {
            Check.refused(story, INDEX, "within -1 0", "within 0 -1", "within SCHEMAS 0", "within 0 SCHEMAS", "within MIN 0",
                "within 0 MIN", "within MAX 0", "within 0 MAX");
            Check.allowed(story, "within 0 0", "within SCHEMAS-1 SCHEMAS-1");
        }
    }

    /** "if sort is not 0 to 6" */
    private static void promise27Sorts() {
        refused(ARGUMENT, "step -1 0 0 0", "step 7 0 0 0", "step MIN 0 0 0", "step MAX 0 0 0");
        Check.allowed(EMPTY, "step 0 0 0 0", "step 6 0 0 0");
    }

    /** "there is no such STRING" */
    private static void promise27Strings() {
        for (int sort : new int[] {0, 1, 2, 3, 4, 6}) {
            for (String wrong : new String[] {"-1", "3", "MIN", "MAX"}) {
                Check.refused(BEGUN, ARGUMENT, "step " + sort + " " + wrong + " 0 0");
                if (sort == 1 || sort == 2) {
                    Check.refused(BEGUN, ARGUMENT, "step " + sort + " 0 " + wrong + " 0");
                }
            }
            Check.allowed(BEGUN, "step " + sort + " 0 0 0", "step " + sort + " 2 0 0");
        }
        Check.allowed(BEGUN, "step 1 0 2 0", "step 2 2 2 0");
    }

    /** "there is no such LANGUAGE or MACHINE" */
    private static void promise27LanguagesAndMachines() {
        for (Story story : new Story[] {EMPTY, BEGUN}) {
            for (int sort : new int[] {0, 4, 6}) {
                String step = "step " + sort + " 0 ";
                Check.refused(story, ARGUMENT, step + "-1 0", step + "LANGUAGES 0", step + "MIN 0", step + "MAX 0");
                Check.allowed(story, step + "0 0", step + "LANGUAGES-1 0");
            }
            Check.refused(story, ARGUMENT, "step 3 0 -1 0", "step 3 0 MACHINES 0", "step 3 0 MIN 0", "step 3 0 MAX 0");
        }
        Check.allowed(BEGUN, "step 3 0 0 0", "step 3 0 MACHINES-1 0");
    }

    /** "c is not 0 to 10" */
    private static void promise27Targets() {
        for (String wrong : new String[] {"-1", "11", "MIN", "MAX"}) {
            Check.refused(EMPTY, ARGUMENT, "step 4 0 0 " + wrong, "step 5 0 0 " + wrong);
            Check.refused(BEGUN, ARGUMENT, "step 4 0 0 " + wrong, "step 5 0 0 " + wrong);
        }
        Check.allowed(EMPTY, "step 4 0 0 0", "step 4 0 0 10", "step 5 0 0 0", "step 5 0 0 10");
    }

    /** "one of them is not 0 where it has to be" */
    private static void promise27Zeros() {
        for (String wrong : new String[] {"1", "-1", "MIN", "MAX"}) {
            for (int sort : new int[] {0, 1, 2, 3, 6}) {
                Check.refused(BEGUN, ARGUMENT, "step " + sort + " 0 0 " + wrong);
            }
            Check.refused(BEGUN, ARGUMENT, "step 5 " + wrong + " 0 0", "step 5 0 " + wrong + " 0");
        }
    }

    /** "if there are 10" */
    private static void promise27StepWithTen() {
        Check.refused(FULL, STATE, "step 0 0 0 0", "step 4 2 39 10", "step 5 0 0 0", "step 6 0 0 0", "step 3 0 5 0");
        Check.refused(FULL, ARGUMENT, "step -1 0 0 0", "step 7 0 0 0", "step 0 3 0 0", "step 0 0 40 0", "step 3 0 6 0",
            "step 4 0 0 11", "step 5 1 0 0", "step 6 0 0 1");
        Story nine = new Story("with nine STEPS");
        for (int i = 0; i < 9; i++) {
            nine.then("step 5 0 0 " + i);
        }
        Check.allowed(nine, "step 5 0 0 0", "step 6 0 0 0");
    }

    /** "if step is not 0 to 10, or there is no such STRING"; "if what is not 0 to 3" */
    private static void promise29Span() {
        refused(INDEX, "span -1 0 0", "span 11 0 0", "span MIN 0 0", "span MAX 0 0", "span 0 -1 0", "span 0 3 0",
            "span 10 MIN 0", "span 10 MAX 0");
        refused(ARGUMENT, "span 0 0 -1", "span 0 0 4", "span 10 2 MIN", "span 10 2 MAX");
        refused(INDEX, "span 11 0 4", "span -1 0 -1", "span 0 3 4", "span 10 -1 -1");
        allowed("span 0 0 0", "span 10 2 3", "span 10 0 0", "span 0 2 3");
    }

    /** "if there is no such STEP" */
    private static void promise30Bad() {
        refused(INDEX, "bad -1", "bad STEPS", "bad 10", "bad MIN", "bad MAX");
        Check.refused(EMPTY, INDEX, "bad 0");
        Check.refused(new Story("with STEPS taken away").then("step 6 0 0 0", "clear"), INDEX, "bad 0");
        Check.allowed(BEGUN, "bad 0", "bad STEPS-1");
        Check.allowed(FULL, "bad 0", "bad 9");
    }

    /** "if what is not 0 to 9" */
    private static void promise31Many() {
        refused(ARGUMENT, "many -1", "many 10", "many MIN", "many MAX");
        allowed("many 0", "many 9");
    }

    /** "if there is no such VARIABLE"; "if most is not 0 to 2" */
    private static void promise34SolutionsWith() {
        refused(INDEX, "solutionsWith -1 0", "solutionsWith 4 0", "solutionsWith MIN 0", "solutionsWith MAX 0");
        refused(ARGUMENT, "solutionsWith 0 -1", "solutionsWith 3 3", "solutionsWith 0 MIN", "solutionsWith 3 MAX");
        refused(INDEX, "solutionsWith 4 3", "solutionsWith -1 -1");
        allowed("solutionsWith 0 0", "solutionsWith 3 2");
    }
}
