import java.util.Arrays;

/** A decider of words: languages, machines with arcs, equations, schemas and small programs of strings. */
public final class WordWright {
    private static final int NONE = -1;
    private static final int LETTERS = 4;
    private static final int EACH_LETTER = (1 << LETTERS) - 1;
    private static final int BLANK_WORD = 1;
    private static final int MOST_WORD_LETTERS = 10;
    private static final int MOST_COUNTED_LETTERS = 12;
    private static final int MOST_READ_LETTERS = 5;
    private static final int MOST_SEVERAL_LETTERS = 4;

    private static final int MOST_LANGUAGES = 40;
    private static final int MOST_STATES = 10;
    private static final int MOST_SETS = 300;
    // As many as a LANGUAGE JOINED to another can have: a STATE of it, and any set of those of the other.
    private static final int MOST_DRAFTED = MOST_STATES << MOST_STATES;

    private static final int MAKE_NONE = 0;
    private static final int MAKE_BLANK = 1;
    private static final int MAKE_LETTER = 2;
    private static final int MAKE_ALL = 3;
    private static final int MAKE_JOINED = 4;
    private static final int MAKE_OR = 5;
    private static final int MAKE_BOTH = 6;
    private static final int MAKE_WITHOUT = 7;
    private static final int MAKE_STAR = 8;
    private static final int MAKE_TURNED = 9;
    private static final int MAKE_HEADS = 10;
    private static final int MAKE_OUT = 11;
    private static final int MAKE_INTO = 12;
    private static final int MAKE_READ = 13;

    private static final int MOST_MACHINES = 6;
    private static final int MACHINE_STATES = 4;
    private static final int MOST_ARCS = 10;

    private static final int VARIABLES = 4;
    private static final int MOST_OF_MOST = 2;
    private static final int MOST_EQUATIONS = 4;
    private static final int MOST_SYMBOLS = 6;
    private static final int FIRST_VARIABLE_SYMBOL = 10;

    private static final int MOST_SCHEMAS = 4;
    private static final int MOST_NODES = 30;
    private static final int MOST_BENEATH = 10;

    private static final int MOST_STEPS = 10;
    private static final int END = 10;
    private static final int STRINGS = 3;
    private static final int FIRST_WIDE_ROUND = 6;

    private static final int ANY = 0;
    private static final int COPY = 1;
    private static final int ADD = 2;
    private static final int PASS = 3;
    private static final int IF = 4;
    private static final int GO = 5;
    private static final int SINK = 6;

    private static final long DIGEST_START = 58152L;

    private final Language[] languages = new Language[MOST_LANGUAGES];
    private int languageCount;
    private final Machine[] machines = new Machine[MOST_MACHINES];
    private int machineCount;
    private final Language built = new Language();
    private final int[] ways = new int[2 * MOST_STATES];
    private final Workshop workshop = new Workshop();
    private final Search search = new Search();
    private final Writings writings = new Writings();
    private final Equations equations = new Equations();
    private final Solver solver = new Solver();
    private final Schemas schemas = new Schemas();
    private final Program program = new Program();

    /** Creates a decider with the LANGUAGES 0 (NONE at all) and 1 (ALL). */
    public WordWright() {
        for (int i = 0; i < MOST_LANGUAGES; i++) {
            languages[i] = new Language();
        }
        for (int i = 0; i < MOST_MACHINES; i++) {
            machines[i] = new Machine();
        }
        languages[1].becomeAll();
        languageCount = 2;
    }

    // ---- languages

    /** MAKES a LANGUAGE of a KIND; answers its number. */
    public int make(int kind, int a, int b) throws IllegalArgumentException, IllegalStateException {
        if (!canName(kind, a, b)) {
            throw new IllegalArgumentException("no such KIND, or no such a or b for it");
        }
        if (!build(kind, a, b)) {
            throw new IllegalStateException("it would have more than 10 STATES");
        }
        int number = numberOfBuilt();
        if (number == NONE) {
            if (languageCount >= MOST_LANGUAGES) {
                throw new IllegalStateException("there are 40 LANGUAGES");
            }
            number = languageCount;
            languages[number].take(built);
            languageCount++;
        }
        return number;
    }

    /** What is to be told of a LANGUAGE: SIZE, STATES, least WORD, endlessness, longest WORD, LETTERS. */
    public int ofLanguage(int language, int what) throws IndexOutOfBoundsException, IllegalArgumentException {
        if (!isLanguage(language)) {
            throw new IndexOutOfBoundsException("no such LANGUAGE");
        }
        if (what < 0 || what > 5) {
            throw new IllegalArgumentException("what is not 0 to 5");
        }
        return languageFact(languages[language], what);
    }

    /** The STATE to which one comes from a STATE by a LETTER. */
    public int next(int language, int state, int letter) throws IndexOutOfBoundsException {
        if (!isLanguage(language)) {
            throw new IndexOutOfBoundsException("no such LANGUAGE");
        }
        if (state < 0 || state >= languages[language].size || !isLetter(letter)) {
            throw new IndexOutOfBoundsException("no such STATE, or LETTER");
        }
        return languages[language].after(state, letter);
    }

    /** Whether a WORD is in a LANGUAGE. */
    public boolean has(int language, int word) throws IndexOutOfBoundsException, IllegalArgumentException {
        if (!isLanguage(language)) {
            throw new IndexOutOfBoundsException("no such LANGUAGE");
        }
        if (!isWord(word)) {
            throw new IllegalArgumentException("no WORD");
        }
        return languages[language].holds(word);
    }

    /** How many WORDS with just so many LETTERS a LANGUAGE has. */
    public int howMany(int language, int letters) throws IndexOutOfBoundsException, IllegalArgumentException {
        if (!isLanguage(language)) {
            throw new IndexOutOfBoundsException("no such LANGUAGE");
        }
        if (letters < 0 || letters > MOST_COUNTED_LETTERS) {
            throw new IllegalArgumentException("letters is not 0 to 12");
        }
        return languages[language].wordsOf(letters, ways);
    }

    /** The least WORD that is in the first LANGUAGE, and not in the other one; 0 without one. */
    public int beyond(int one, int other) throws IndexOutOfBoundsException, ArithmeticException {
        if (!isLanguage(one) || !isLanguage(other)) {
            throw new IndexOutOfBoundsException("no such LANGUAGE");
        }
        int word = search.leastBeyond(languages[one], languages[other]);
        if (word == NONE) {
            throw new ArithmeticException("the least WORD has more than 10 LETTERS");
        }
        return word;
    }

    // ---- machines

    /** Adds a MACHINE without ARCS; answers its number. */
    public int machine() throws IllegalStateException {
        if (machineCount >= MOST_MACHINES) {
            throw new IllegalStateException("there are 6 MACHINES");
        }
        machineCount++;
        return machineCount - 1;
    }

    /** Adds an ARC to a MACHINE; answers its number. */
    public int arc(int machine, int from, int letter, int to, int out)
            throws IndexOutOfBoundsException, IllegalArgumentException, IllegalStateException {
        if (!isMachine(machine)) {
            throw new IndexOutOfBoundsException("no such MACHINE");
        }
        if (!isMachineState(from) || !isLetter(letter) || !isMachineState(to)) {
            throw new IllegalArgumentException("no such STATE, or LETTER");
        }
        if (out != NONE && !isLetter(out)) {
            throw new IllegalArgumentException("what is written is no LETTER, and not NONE");
        }
        if (machines[machine].arcs >= MOST_ARCS) {
            throw new IllegalStateException("there are 10 ARCS");
        }
        machines[machine].add(from, letter, to, out);
        program.forget();
        return machines[machine].arcs - 1;
    }

    /** Tells the FINAL STATES of a MACHINE; answers those before. */
    public int finals(int machine, int finals) throws IndexOutOfBoundsException, IllegalArgumentException {
        if (!isMachine(machine)) {
            throw new IndexOutOfBoundsException("no such MACHINE");
        }
        if (finals < 0 || finals >= 1 << MACHINE_STATES) {
            throw new IllegalArgumentException("finals is not 0 to 15");
        }
        int before = machines[machine].ends;
        machines[machine].ends = finals;
        program.forget();
        return before;
    }

    /** The k-th of the WORDS that a MACHINE writes for a WORD; 0 without one. */
    public int writes(int machine, int word, int k) throws IndexOutOfBoundsException, IllegalArgumentException {
        if (!isMachine(machine)) {
            throw new IndexOutOfBoundsException("no such MACHINE");
        }
        if (!isWord(word) || lengthOf(word) > MOST_READ_LETTERS || k < 0) {
            throw new IllegalArgumentException("no WORD, a WORD of more than 5 LETTERS, or k below 0");
        }
        return writings.writtenFor(machines[machine], word, k);
    }

    /** The least WORD with so many LETTERS at most for which a MACHINE writes several; 0 without one. */
    public int several(int machine, int letters) throws IndexOutOfBoundsException, IllegalArgumentException {
        if (!isMachine(machine)) {
            throw new IndexOutOfBoundsException("no such MACHINE");
        }
        if (letters < 0 || letters > MOST_SEVERAL_LETTERS) {
            throw new IllegalArgumentException("letters is not 0 to 4");
        }
        return writings.leastWithSeveral(machines[machine], letters);
    }

    /** The first (0) or second (1) WORD of the first LOOP of a MACHINE; 0 without a LOOP. */
    public int loop(int machine, int what) throws IndexOutOfBoundsException, IllegalArgumentException {
        if (!isMachine(machine)) {
            throw new IndexOutOfBoundsException("no such MACHINE");
        }
        if (what != 0 && what != 1) {
            throw new IllegalArgumentException("what is not 0 or 1");
        }
        return search.loopWord(machines[machine], what);
    }

    /** The least WORD of one LANGUAGE for which a MACHINE writes what is not in the other one; 0 without one. */
    public int breaks(int machine, int from, int to) throws IndexOutOfBoundsException, ArithmeticException {
        if (!isMachine(machine) || !isLanguage(from) || !isLanguage(to)) {
            throw new IndexOutOfBoundsException("no such MACHINE, or LANGUAGE");
        }
        int word = search.leastBroken(machines[machine], languages[from], languages[to]);
        if (word == NONE) {
            throw new ArithmeticException("the least WORD has more than 10 LETTERS");
        }
        return word;
    }

    // ---- equations

    /** Tells the LANGUAGE and the MOST of a VARIABLE; answers its MOST before. */
    public int domain(int variable, int language, int most) throws IndexOutOfBoundsException, IllegalArgumentException {
        if (!isVariable(variable)) {
            throw new IndexOutOfBoundsException("no such VARIABLE");
        }
        if (!isLanguage(language) || most < 0 || most > MOST_OF_MOST) {
            throw new IllegalArgumentException("no such LANGUAGE, or most is not 0 to 2");
        }
        return equations.tellDomain(variable, language, most);
    }

    /** Adds an EQUATION of two BLANK SIDES; answers its number. */
    public int equation() throws IllegalStateException {
        if (equations.count >= MOST_EQUATIONS) {
            throw new IllegalStateException("there are 4 EQUATIONS");
        }
        return equations.add();
    }

    /** Adds a SYMBOL at the end of a SIDE; answers how many the SIDE has then. */
    public int symbol(int equation, int side, int symbol)
            throws IndexOutOfBoundsException, IllegalArgumentException, IllegalStateException {
        if (equation < 0 || equation >= equations.count) {
            throw new IndexOutOfBoundsException("no such EQUATION");
        }
        if (side != 0 && side != 1) {
            throw new IllegalArgumentException("side is not 0 or 1");
        }
        if (!isLetter(symbol) && !isVariable(symbol - FIRST_VARIABLE_SYMBOL)) {
            throw new IllegalArgumentException("no SYMBOL");
        }
        if (equations.lengths[2 * equation + side] >= MOST_SYMBOLS) {
            throw new IllegalStateException("the SIDE has 6 SYMBOLS");
        }
        return equations.extend(2 * equation + side, symbol);
    }

    /** Takes the last EQUATION away; answers how many there are then. */
    public int undo() throws IllegalStateException {
        if (equations.count == 0) {
            throw new IllegalStateException("there is no EQUATION");
        }
        return equations.takeLast();
    }

    /** The WORD of a VARIABLE in the first SOLUTION; 0 without one. */
    public int solved(int variable) throws IndexOutOfBoundsException {
        if (!isVariable(variable)) {
            throw new IndexOutOfBoundsException("no such VARIABLE");
        }
        solveEquations();
        return equations.first[variable];
    }

    /** How many SOLUTIONS there are. */
    public int solutions() {
        solveEquations();
        return equations.found;
    }

    // ---- schemas and documents

    /** Adds a SCHEMA; answers its number. */
    public int schema() throws IllegalStateException {
        if (schemas.count >= MOST_SCHEMAS) {
            throw new IllegalStateException("there are 4 SCHEMAS");
        }
        schemas.count++;
        return schemas.count - 1;
    }

    /** Tells what may be beneath a LETTER in a SCHEMA; answers the LANGUAGE before. */
    public int beneath(int schema, int letter, int language)
            throws IndexOutOfBoundsException, IllegalArgumentException {
        if (!isSchema(schema) || !isLetter(letter)) {
            throw new IndexOutOfBoundsException("no such SCHEMA, or LETTER");
        }
        if (!isLanguage(language)) {
            throw new IllegalArgumentException("no such LANGUAGE");
        }
        int before = schemas.content[schema * LETTERS + letter];
        schemas.content[schema * LETTERS + letter] = language;
        return before;
    }

    /** Adds a NODE beneath its PARENT, or begins the DOCUMENT anew; answers its number. */
    public int node(int parent, int letter) throws IndexOutOfBoundsException, IllegalStateException {
        if (parent < NONE || parent >= schemas.nodes || !isLetter(letter)) {
            throw new IndexOutOfBoundsException("no such PARENT, or LETTER");
        }
        if (parent != NONE && (schemas.nodes >= MOST_NODES || schemas.childrenOf(parent) >= MOST_BENEATH)) {
            throw new IllegalStateException("there are 30 NODES, or 10 beneath the PARENT");
        }
        return schemas.addNode(parent, letter);
    }

    /** The first NODE that keeps the DOCUMENT from FITTING a SCHEMA; NONE, if it FITS. */
    public int misfit(int schema) throws IndexOutOfBoundsException, IllegalStateException {
        if (!isSchema(schema)) {
            throw new IndexOutOfBoundsException("no such SCHEMA");
        }
        if (schemas.nodes == 0) {
            throw new IllegalStateException("there is no NODE");
        }
        return schemas.firstMisfit(schema, languages);
    }

    /** How many NODES the smallest DOCUMENT has that FITS, with a LETTER at the top; NONE without one. */
    public int least(int schema, int letter) throws IndexOutOfBoundsException {
        if (!isSchema(schema) || !isLetter(letter)) {
            throw new IndexOutOfBoundsException("no such SCHEMA, or LETTER");
        }
        schemas.weigh(schema, languages);
        return schemas.weights[letter];
    }

    /** The first LETTER at the top of a DOCUMENT that FITS the first SCHEMA, and not the other; NONE without one. */
    public int within(int one, int other) throws IndexOutOfBoundsException {
        if (!isSchema(one) || !isSchema(other)) {
            throw new IndexOutOfBoundsException("no such SCHEMA");
        }
        return schemas.firstStray(one, other, languages, search);
    }

    // ---- programs

    /** Adds a STEP at the end of the PROGRAM; answers its number. */
    public int step(int sort, int a, int b, int c) throws IllegalArgumentException, IllegalStateException {
        if (!isStep(sort, a, b, c)) {
            throw new IllegalArgumentException("no such SORT, or no such a, b or c for it");
        }
        if (program.count >= MOST_STEPS) {
            throw new IllegalStateException("there are 10 STEPS");
        }
        return program.add(sort, a, b, c);
    }

    /** Takes all STEPS away; answers how many there were. */
    public int clear() {
        int before = program.count;
        program.count = 0;
        program.forget();
        return before;
    }

    /** What is to be told of the SPAN of a STRING ahead of a STEP. */
    public int span(int step, int string, int what) throws IndexOutOfBoundsException, IllegalArgumentException {
        if (step < 0 || step > END || !isString(string)) {
            throw new IndexOutOfBoundsException("no such STEP, or STRING");
        }
        if (what < 0 || what > 3) {
            throw new IllegalArgumentException("what is not 0 to 3");
        }
        program.lookThrough(languages, machines, workshop);
        return spanFact(step, string, what);
    }

    /** The least WORD for which a SINK is BAD (NONE, if it is too long); 0, if it is no SINK, or not BAD. */
    public int bad(int step) throws IndexOutOfBoundsException {
        if (step < 0 || step >= program.count) {
            throw new IndexOutOfBoundsException("no such STEP");
        }
        program.lookThrough(languages, machines, workshop);
        return badWord(step);
    }

    /** How many there are of a sort of thing. */
    public int many(int what) throws IllegalArgumentException {
        if (what < 0 || what > 9) {
            throw new IllegalArgumentException("what is not 0 to 9");
        }
        if (what >= 8) {
            program.lookThrough(languages, machines, workshop);
        }
        return amount(what);
    }

    /** The mean SIZE of all LANGUAGES. */
    public double meanSize() {
        int sum = 0;
        for (int i = 0; i < languageCount; i++) {
            sum += languages[i].size;
        }
        return (double) sum / languageCount;
    }

    // ---- what would be (nothing is changed)

    /** The SIZE that make() would bring; 0, if it would have more than 10 STATES. */
    public int wouldSize(int kind, int a, int b) throws IllegalArgumentException {
        if (!canName(kind, a, b)) {
            throw new IllegalArgumentException("no such KIND, or no such a or b for it");
        }
        return build(kind, a, b) ? built.size : 0;
    }

    /** How many SOLUTIONS there would be with another MOST of a VARIABLE. */
    public int solutionsWith(int variable, int most) throws IndexOutOfBoundsException, IllegalArgumentException {
        if (!isVariable(variable)) {
            throw new IndexOutOfBoundsException("no such VARIABLE");
        }
        if (most < 0 || most > MOST_OF_MOST) {
            throw new IllegalArgumentException("most is not 0 to 2");
        }
        int before = equations.most[variable];
        equations.most[variable] = most;
        solver.solve(equations, languages);
        equations.most[variable] = before;
        return solver.found;
    }

    /** A checksum over all that can be asked. */
    public long digest() {
        program.lookThrough(languages, machines, workshop);
        solveEquations();
        long d = DIGEST_START;
        for (int what = 0; what <= 9; what++) {
            d = d * 31 + amount(what);
        }
        d = mixLanguages(d);
        d = mixMachines(d);
        for (int v = 0; v < VARIABLES; v++) {
            d = d * 31 + equations.first[v];
        }
        for (int s = 0; s < schemas.count; s++) {
            d = mixSchema(d, s);
        }
        d = mixSpans(d);
        for (int s = 0; s < program.count; s++) {
            d = d * 31 + badWord(s);
        }
        return d;
    }

    // ---- what the calls have in common

    private static boolean isLetter(int letter) {
        return letter >= 0 && letter < LETTERS;
    }

    private static boolean isMachineState(int state) {
        return state >= 0 && state < MACHINE_STATES;
    }

    private static boolean isVariable(int variable) {
        return variable >= 0 && variable < VARIABLES;
    }

    private static boolean isString(int string) {
        return string >= 0 && string < STRINGS;
    }

    private static boolean isWord(int word) {
        return word > 0 && word < 2 << 2 * MOST_WORD_LETTERS && (Integer.numberOfLeadingZeros(word) & 1) == 1;
    }

    private static int lengthOf(int word) {
        return (31 - Integer.numberOfLeadingZeros(word)) / 2;
    }

    private boolean isLanguage(int language) {
        return language >= 0 && language < languageCount;
    }

    private boolean isMachine(int machine) {
        return machine >= 0 && machine < machineCount;
    }

    private boolean isSchema(int schema) {
        return schema >= 0 && schema < schemas.count;
    }

    private boolean canName(int kind, int a, int b) {
        switch (kind) {
            case MAKE_NONE:
            case MAKE_BLANK:
            case MAKE_ALL:
                return a == 0 && b == 0;
            case MAKE_LETTER:
                return isLetter(a) && b == 0;
            case MAKE_JOINED:
            case MAKE_OR:
            case MAKE_BOTH:
            case MAKE_WITHOUT:
                return isLanguage(a) && isLanguage(b);
            case MAKE_STAR:
            case MAKE_TURNED:
            case MAKE_HEADS:
                return isLanguage(a) && b == 0;
            case MAKE_OUT:
            case MAKE_INTO:
                return isMachine(a) && isLanguage(b);
            case MAKE_READ:
                return isMachine(a) && b == 0;
            default:
                return false;
        }
    }

    private boolean isStep(int sort, int a, int b, int c) {
        switch (sort) {
            case ANY:
            case SINK:
                return isString(a) && isLanguage(b) && c == 0;
            case COPY:
            case ADD:
                return isString(a) && isString(b) && c == 0;
            case PASS:
                return isString(a) && isMachine(b) && c == 0;
            case IF:
                return isString(a) && isLanguage(b) && c >= 0 && c <= END;
            case GO:
                return a == 0 && b == 0 && c >= 0 && c <= END;
            default:
                return false;
        }
    }

    /** Leaves in 'built' what is MADE of a KIND; false, if that would have too many STATES. */
    private boolean build(int kind, int a, int b) {
        switch (kind) {
            case MAKE_NONE:
                built.becomeNone();
                return true;
            case MAKE_BLANK:
                built.becomeBlank();
                return true;
            case MAKE_LETTER:
                built.becomeLetter(a);
                return true;
            case MAKE_ALL:
                built.becomeAll();
                return true;
            case MAKE_JOINED:
                return workshop.joined(languages[a], languages[b], built);
            case MAKE_OR:
            case MAKE_BOTH:
            case MAKE_WITHOUT:
                return workshop.combined(languages[a], languages[b], kind, built);
            case MAKE_STAR:
                return workshop.star(languages[a], built);
            case MAKE_TURNED:
                return workshop.turned(languages[a], built);
            case MAKE_HEADS:
                return workshop.heads(languages[a], built);
            case MAKE_OUT:
                return workshop.written(machines[a], languages[b], built);
            case MAKE_INTO:
                return workshop.readInto(machines[a], languages[b], built);
            default:
                return workshop.readable(machines[a], built);
        }
    }

    private int numberOfBuilt() {
        for (int i = 0; i < languageCount; i++) {
            if (languages[i].sameAs(built)) {
                return i;
            }
        }
        return NONE;
    }

    private int languageFact(Language language, int what) {
        switch (what) {
            case 0:
                return language.size;
            case 1:
                return language.ends;
            case 2:
                return search.leastOf(language);
            case 3:
                return language.isEndless() ? 1 : 0;
            case 4:
                return language.isEndless() ? NONE : language.longest();
            default:
                return language.lettersAmong(EACH_LETTER);
        }
    }

    private int spanFact(int step, int string, int what) {
        int place = program.placeOf(step);
        if (!program.came[place]) {
            return 0;
        }
        return what == 0 ? 1 : languageFact(program.spans[place * STRINGS + string], what == 1 ? 0 : what);
    }

    private int badWord(int step) {
        if (program.sorts[step] != SINK || !program.came[step]) {
            return 0;
        }
        Language came = program.spans[step * STRINGS + program.as[step]];
        return search.leastBeyond(came, languages[program.bs[step]]);
    }

    private int amount(int what) {
        switch (what) {
            case 0:
                return languageCount;
            case 1:
                return machineCount;
            case 2:
                return arcCount();
            case 3:
                return equations.count;
            case 4:
                return equations.symbolCount();
            case 5:
                return schemas.count;
            case 6:
                return schemas.nodes;
            case 7:
                return program.count;
            case 8:
                return program.rounds;
            default:
                return badCount();
        }
    }

    private int arcCount() {
        int sum = 0;
        for (int m = 0; m < machineCount; m++) {
            sum += machines[m].arcs;
        }
        return sum;
    }

    private int badCount() {
        int sum = 0;
        for (int s = 0; s < program.count; s++) {
            if (badWord(s) != 0) {
                sum++;
            }
        }
        return sum;
    }

    private void solveEquations() {
        if (!equations.isSolved) {
            solver.solve(equations, languages);
            equations.keep(solver);
        }
    }

    private long mixLanguages(long start) {
        long d = start;
        for (int i = 0; i < languageCount; i++) {
            Language language = languages[i];
            for (int what = 0; what <= 5; what++) {
                d = d * 31 + languageFact(language, what);
            }
            d = d * 31 + language.wordsOf(2, ways);
            d = d * 31 + language.wordsOf(5, ways);
            for (int at = 0; at < language.size * LETTERS; at++) {
                d = d * 31 + language.to[at];
            }
        }
        return d;
    }

    private long mixMachines(long start) {
        long d = start;
        for (int m = 0; m < machineCount; m++) {
            d = d * 31 + writings.leastWithSeveral(machines[m], 2);
            d = d * 31 + search.loopWord(machines[m], 0);
            d = d * 31 + search.loopWord(machines[m], 1);
            d = mixWritten(d, machines[m], 1);
            d = mixWritten(d, machines[m], 5);
            d = mixWritten(d, machines[m], 22);
        }
        return d;
    }

    private long mixWritten(long start, Machine machine, int word) {
        long d = start * 31 + writings.writtenFor(machine, word, 0);
        return d * 31 + writings.writtenFor(machine, word, 1);
    }

    private long mixSchema(long start, int schema) {
        long d = start;
        schemas.weigh(schema, languages);
        for (int letter = 0; letter < LETTERS; letter++) {
            d = d * 31 + schemas.weights[letter];
        }
        if (schemas.nodes > 0) {
            d = d * 31 + schemas.firstMisfit(schema, languages);
        }
        for (int other = 0; other < schemas.count; other++) {
            d = d * 31 + schemas.firstStray(schema, other, languages, search);
        }
        return d;
    }

    private long mixSpans(long start) {
        long d = start;
        for (int step = 0; step <= END; step++) {
            for (int string = 0; string < STRINGS; string++) {
                for (int what = 0; what <= 3; what++) {
                    d = d * 31 + spanFact(step, string, what);
                }
            }
        }
        return d;
    }

    /** The smallest automaton of a LANGUAGE; its STATES are numbered as one comes to them. */
    private static final class Language {
        int size = 1;
        int ends;
        final int[] to = new int[MOST_STATES * LETTERS];

        void take(Language other) {
            size = other.size;
            ends = other.ends;
            System.arraycopy(other.to, 0, to, 0, size * LETTERS);
        }

        void becomeNone() {
            size = 1;
            ends = 0;
            Arrays.fill(to, 0);
        }

        void becomeAll() {
            becomeNone();
            ends = 1;
        }

        void becomeBlank() {
            size = 2;
            ends = 1;
            Arrays.fill(to, 1);
        }

        void becomeLetter(int letter) {
            int end = letter == 0 ? 1 : 2;
            int dead = 3 - end;
            size = 3;
            ends = 1 << end;
            Arrays.fill(to, dead);
            to[letter] = end;
        }

        boolean sameAs(Language other) {
            if (size != other.size || ends != other.ends) {
                return false;
            }
            for (int at = 0; at < size * LETTERS; at++) {
                if (to[at] != other.to[at]) {
                    return false;
                }
            }
            return true;
        }

        // All STATES are come to, so without an end among them there is no WORD.
        boolean isNothing() {
            return ends == 0;
        }

        boolean isEnd(int state) {
            return (ends >> state & 1) != 0;
        }

        int after(int state, int letter) {
            return to[state * LETTERS + letter];
        }

        int afterSet(int set, int letter) {
            int reached = 0;
            for (int state = 0; state < size; state++) {
                if ((set >> state & 1) != 0) {
                    reached |= 1 << to[state * LETTERS + letter];
                }
            }
            return reached;
        }

        int aheadOfSet(int set, int letter) {
            int starts = 0;
            for (int state = 0; state < size; state++) {
                if ((set >> to[state * LETTERS + letter] & 1) != 0) {
                    starts |= 1 << state;
                }
            }
            return starts;
        }

        boolean holds(int word) {
            int state = 0;
            for (int left = lengthOf(word) - 1; left >= 0; left--) {
                state = after(state, word >> 2 * left & 3);
            }
            return isEnd(state);
        }

        int wordsOf(int letters, int[] ways) {
            int now = 0;
            for (int state = 0; state < size; state++) {
                ways[state] = isEnd(state) ? 1 : 0;
            }
            for (int i = 0; i < letters; i++) {
                int then = MOST_STATES - now;
                for (int state = 0; state < size; state++) {
                    int sum = 0;
                    for (int letter = 0; letter < LETTERS; letter++) {
                        sum += ways[now + after(state, letter)];
                    }
                    ways[then + state] = sum;
                }
                now = then;
            }
            return ways[now];
        }

        // An automaton with n STATES has no end of WORDS if, and only if, it has one with n to 2n - 1 LETTERS.
        int longest() {
            int longest = NONE;
            int set = 1;
            for (int letters = 0; letters < 2 * size; letters++) {
                if ((set & ends) != 0) {
                    longest = letters;
                }
                set = afterSet(set, 0) | afterSet(set, 1) | afterSet(set, 2) | afterSet(set, 3);
            }
            return longest;
        }

        boolean isEndless() {
            return longest() >= size;
        }

        /** STATES to which one comes by LETTERS of a set. */
        int reachedBy(int letters) {
            int set = 1;
            for (int i = 1; i < size; i++) {
                for (int letter = 0; letter < LETTERS; letter++) {
                    if ((letters >> letter & 1) != 0) {
                        set |= afterSet(set, letter);
                    }
                }
            }
            return set;
        }

        /** STATES from which one comes to an end by LETTERS of a set. */
        int livingBy(int letters) {
            int set = ends;
            for (int i = 1; i < size; i++) {
                for (int letter = 0; letter < LETTERS; letter++) {
                    if ((letters >> letter & 1) != 0) {
                        set |= aheadOfSet(set, letter);
                    }
                }
            }
            return set;
        }

        /** The LETTERS in those of its WORDS that have LETTERS of a set alone. */
        int lettersAmong(int letters) {
            int reached = reachedBy(letters);
            int living = livingBy(letters);
            int among = 0;
            for (int letter = 0; letter < LETTERS; letter++) {
                if ((letters >> letter & 1) != 0 && (afterSet(reached, letter) & living) != 0) {
                    among |= 1 << letter;
                }
            }
            return among;
        }
    }

    /** A MACHINE: its ARCS by number, and its FINAL STATES. */
    private static final class Machine {
        int arcs;
        int ends;
        final int[] from = new int[MOST_ARCS];
        final int[] read = new int[MOST_ARCS];
        final int[] to = new int[MOST_ARCS];
        final int[] wrote = new int[MOST_ARCS];

        void add(int start, int letter, int target, int out) {
            from[arcs] = start;
            read[arcs] = letter;
            to[arcs] = target;
            wrote[arcs] = out;
            arcs++;
        }

        /** It writes what it reads, if that has LETTERS of a set alone. */
        void becomeCopier(int letters) {
            arcs = 0;
            ends = 1;
            for (int letter = 0; letter < LETTERS; letter++) {
                if ((letters >> letter & 1) != 0) {
                    add(0, letter, 0, letter);
                }
            }
        }

        boolean isEnd(int state) {
            return (ends >> state & 1) != 0;
        }
    }

    /** An automaton in the making: each of its states has a key, and is come to from the first one. */
    private static final class Draft {
        private static final int PLACE_BITS = 14;
        private static final int PLACES = 1 << PLACE_BITS;
        // Spreads keys over the places: the golden ratio's bits.
        private static final long SPREAD = 0x9E3779B97F4A7C15L;
        private static final int BASE_LIMIT = 1 << 30;

        int count;
        final long[] keys = new long[MOST_DRAFTED];
        final boolean[] isEnd = new boolean[MOST_DRAFTED];
        final int[] to = new int[MOST_DRAFTED * LETTERS];
        private final int[] places = new int[PLACES];
        // Places of earlier drafts hold numbers up to this one, so that none has to be wiped.
        private int base;
        private int[] group = new int[MOST_DRAFTED];
        private int[] finer = new int[MOST_DRAFTED];
        private final int[] signs = new int[MOST_STATES];
        private final int[] samples = new int[MOST_STATES];
        private final int[] order = new int[MOST_STATES];
        private final int[] numbers = new int[MOST_STATES];

        void begin(long key) {
            base += count;
            if (base > BASE_LIMIT) {
                Arrays.fill(places, 0);
                base = 0;
            }
            count = 0;
            stateFor(key);
        }

        /** The state with a key, which is added if there is none. */
        int stateFor(long key) {
            int place = (int) (key * SPREAD >>> 64 - PLACE_BITS);
            for (int tries = 0; tries < PLACES; tries++) {
                int state = places[place] - base - 1;
                if (state < 0) {
                    break;
                }
                if (keys[state] == key) {
                    return state;
                }
                place = place + 1 & PLACES - 1;
            }
            if (count >= MOST_DRAFTED) {
                return 0;
            }
            keys[count] = key;
            count++;
            places[place] = base + count;
            return count - 1;
        }

        /** Leaves the smallest automaton in 'out'; false, if that has more than 10 STATES ('out' stays then). */
        boolean shrinkInto(Language out) {
            for (int state = 0; state < count; state++) {
                group[state] = isEnd[state] ? 1 : 0;
            }
            int groups = 0;
            for (int round = 0; round <= MOST_STATES; round++) {
                int now = split();
                if (now > MOST_STATES) {
                    return false;
                }
                if (now == groups) {
                    number(out);
                    return true;
                }
                groups = now;
            }
            return false;
        }

        /** Splits the groups by those to which one comes; answers how many there are then, up to one too many. */
        private int split() {
            int found = 0;
            for (int state = 0; state < count; state++) {
                int sign = signOf(state);
                int index = 0;
                while (index < found && signs[index] != sign) {
                    index++;
                }
                if (index == MOST_STATES) {
                    return MOST_STATES + 1;
                }
                if (index == found) {
                    signs[index] = sign;
                    samples[index] = state;
                    found++;
                }
                finer[state] = index;
            }
            int[] coarse = group;
            group = finer;
            finer = coarse;
            return found;
        }

        // There are 10 groups at most, so that four bits tell one.
        private int signOf(int state) {
            int sign = group[state];
            for (int letter = 0; letter < LETTERS; letter++) {
                sign = sign << 4 | group[to[state * LETTERS + letter]];
            }
            return sign;
        }

        private void number(Language out) {
            Arrays.fill(numbers, NONE);
            order[0] = group[0];
            numbers[group[0]] = 0;
            int known = 1;
            int ends = 0;
            for (int at = 0; at < known && at < MOST_STATES; at++) {
                int sample = samples[order[at]];
                if (isEnd[sample]) {
                    ends |= 1 << at;
                }
                for (int letter = 0; letter < LETTERS; letter++) {
                    int next = group[to[sample * LETTERS + letter]];
                    if (numbers[next] == NONE) {
                        numbers[next] = known;
                        order[known] = next;
                        known++;
                    }
                    out.to[at * LETTERS + letter] = numbers[next];
                }
            }
            out.size = known;
            out.ends = ends;
        }
    }

    /** Makes automata of others, all in one draft. Where it answers false, there would be too many STATES. */
    private static final class Workshop {
        private static final int SET = (1 << MOST_STATES) - 1;

        private final Draft draft = new Draft();

        /** A state of it: one of 'a', and the set of those of 'b' that are on their way. */
        boolean joined(Language a, Language b, Language out) {
            draft.begin(a.isEnd(0) ? 1 : 0);
            for (int at = 0; at < draft.count && at < MOST_DRAFTED; at++) {
                int first = (int) (draft.keys[at] >> MOST_STATES);
                int set = (int) draft.keys[at] & SET;
                draft.isEnd[at] = (set & b.ends) != 0;
                for (int letter = 0; letter < LETTERS; letter++) {
                    int next = a.after(first, letter);
                    int nextSet = b.afterSet(set, letter) | (a.isEnd(next) ? 1 : 0);
                    draft.to[at * LETTERS + letter] = draft.stateFor(next << MOST_STATES | nextSet);
                }
            }
            return draft.shrinkInto(out);
        }

        /** OR, BOTH or WITHOUT; a state of it: one of each. */
        boolean combined(Language a, Language b, int kind, Language out) {
            draft.begin(0);
            for (int at = 0; at < draft.count && at < MOST_DRAFTED; at++) {
                int one = (int) draft.keys[at] / MOST_STATES;
                int other = (int) draft.keys[at] % MOST_STATES;
                draft.isEnd[at] = isIn(a.isEnd(one), b.isEnd(other), kind);
                for (int letter = 0; letter < LETTERS; letter++) {
                    int key = a.after(one, letter) * MOST_STATES + b.after(other, letter);
                    draft.to[at * LETTERS + letter] = draft.stateFor(key);
                }
            }
            return draft.shrinkInto(out);
        }

        private static boolean isIn(boolean inOne, boolean inOther, int kind) {
            switch (kind) {
                case MAKE_OR:
                    return inOne || inOther;
                case MAKE_BOTH:
                    return inOne && inOther;
                default:
                    return inOne && !inOther;
            }
        }

        /** A state of it: the set of those of 'a' that are on their way; the first, always an end, has a mark. */
        boolean star(Language a, Language out) {
            int mark = 1 << MOST_STATES;
            draft.begin(mark | 1);
            for (int at = 0; at < draft.count && at < MOST_DRAFTED; at++) {
                int set = (int) draft.keys[at] & SET;
                draft.isEnd[at] = draft.keys[at] >= mark || (set & a.ends) != 0;
                for (int letter = 0; letter < LETTERS; letter++) {
                    int next = a.afterSet(set, letter);
                    draft.to[at * LETTERS + letter] = draft.stateFor((next & a.ends) != 0 ? next | 1 : next);
                }
            }
            return draft.shrinkInto(out);
        }

        /** A state of it: the set of those of 'a' from which the LETTERS so far, turned, lead to an end. */
        boolean turned(Language a, Language out) {
            draft.begin(a.ends);
            for (int at = 0; at < draft.count && at < MOST_DRAFTED; at++) {
                int set = (int) draft.keys[at];
                draft.isEnd[at] = (set & 1) != 0;
                for (int letter = 0; letter < LETTERS; letter++) {
                    draft.to[at * LETTERS + letter] = draft.stateFor(a.aheadOfSet(set, letter));
                }
            }
            return draft.shrinkInto(out);
        }

        boolean heads(Language a, Language out) {
            int living = a.livingBy(EACH_LETTER);
            draft.begin(0);
            for (int at = 0; at < draft.count && at < MOST_DRAFTED; at++) {
                int state = (int) draft.keys[at];
                draft.isEnd[at] = (living >> state & 1) != 0;
                for (int letter = 0; letter < LETTERS; letter++) {
                    draft.to[at * LETTERS + letter] = draft.stateFor(a.after(state, letter));
                }
            }
            return draft.shrinkInto(out);
        }

        /** OUT; a state of it: a set of PAIRS. */
        boolean written(Machine machine, Language b, Language out) {
            draft.begin(silently(machine, b, 1));
            for (int at = 0; at < draft.count && at < MOST_SETS; at++) {
                long pairs = draft.keys[at];
                draft.isEnd[at] = hasEnd(machine, b, pairs);
                for (int letter = 0; letter < LETTERS; letter++) {
                    long next = silently(machine, b, byWriting(machine, b, pairs, letter));
                    draft.to[at * LETTERS + letter] = draft.stateFor(next);
                }
            }
            return draft.count <= MOST_SETS && draft.shrinkInto(out);
        }

        /** INTO; a state of it: a set of PAIRS. */
        boolean readInto(Machine machine, Language b, Language out) {
            draft.begin(1);
            for (int at = 0; at < draft.count && at < MOST_SETS; at++) {
                long pairs = draft.keys[at];
                draft.isEnd[at] = hasEnd(machine, b, pairs);
                for (int letter = 0; letter < LETTERS; letter++) {
                    draft.to[at * LETTERS + letter] = draft.stateFor(byReading(machine, b, pairs, letter));
                }
            }
            return draft.count <= MOST_SETS && draft.shrinkInto(out);
        }

        /** READ; a state of it: a set of STATES of the MACHINE. */
        boolean readable(Machine machine, Language out) {
            draft.begin(1);
            for (int at = 0; at < draft.count && at < MOST_DRAFTED; at++) {
                int set = (int) draft.keys[at];
                draft.isEnd[at] = (set & machine.ends) != 0;
                for (int letter = 0; letter < LETTERS; letter++) {
                    int next = 0;
                    for (int arc = 0; arc < machine.arcs; arc++) {
                        if (machine.read[arc] == letter && (set >> machine.from[arc] & 1) != 0) {
                            next |= 1 << machine.to[arc];
                        }
                    }
                    draft.to[at * LETTERS + letter] = draft.stateFor(next);
                }
            }
            return draft.shrinkInto(out);
        }

        // The PAIRS of each STATE of the MACHINE lie in ten bits of their own, one for each STATE of the LANGUAGE.
        private static int pairsAt(long pairs, int state) {
            return (int) (pairs >> state * MOST_STATES) & SET;
        }

        private static boolean hasEnd(Machine machine, Language b, long pairs) {
            for (int state = 0; state < MACHINE_STATES; state++) {
                if (machine.isEnd(state) && (pairsAt(pairs, state) & b.ends) != 0) {
                    return true;
                }
            }
            return false;
        }

        /** With all to which ARCS lead that write nothing: there are 40 PAIRS, so that 40 rounds are enough. */
        private static long silently(Machine machine, Language b, long pairs) {
            long all = pairs;
            for (int round = 0; round < MACHINE_STATES * MOST_STATES; round++) {
                long more = all | byWriting(machine, b, all, NONE);
                if (more == all) {
                    return all;
                }
                all = more;
            }
            return all;
        }

        private static long byWriting(Machine machine, Language b, long pairs, int letter) {
            long next = 0;
            for (int arc = 0; arc < machine.arcs; arc++) {
                int set = pairsAt(pairs, machine.from[arc]);
                if (machine.wrote[arc] == letter && set != 0) {
                    next |= (long) b.afterSet(set, machine.read[arc]) << machine.to[arc] * MOST_STATES;
                }
            }
            return next;
        }

        private static long byReading(Machine machine, Language b, long pairs, int letter) {
            long next = 0;
            for (int arc = 0; arc < machine.arcs; arc++) {
                int set = pairsAt(pairs, machine.from[arc]);
                if (machine.read[arc] == letter && set != 0) {
                    int moved = machine.wrote[arc] == NONE ? set : b.afterSet(set, machine.wrote[arc]);
                    next |= (long) moved << machine.to[arc] * MOST_STATES;
                }
            }
            return next;
        }
    }

    /** Looks for least WORDS. */
    private static final class Search {
        private static final int PLACES = MACHINE_STATES * MOST_STATES * MOST_STATES;
        private static final int TOO_LONG = 2 << 2 * MOST_WORD_LETTERS;
        private static final int LOOP_PLACES = 2 * MACHINE_STATES;

        private final Machine copier = new Machine();
        private final Language nothing = new Language();
        // A place: a STATE of the MACHINE, one of the LANGUAGE that is read, one of that which is written.
        private final int[] words = new int[PLACES];
        private final int[] queue = new int[PLACES];
        private int queued;
        private final int[] leads = new int[MACHINE_STATES];
        private final int[] rounds = new int[LOOP_PLACES];

        Search() {
            copier.becomeCopier(EACH_LETTER);
        }

        int leastOf(Language language) {
            return leastBroken(copier, language, nothing);
        }

        int leastBeyond(Language one, Language other) {
            return leastBroken(copier, one, other);
        }

        /** The least WORD of 'from' for which the MACHINE writes what is not in 'to'; 0 without one, NONE if long. */
        int leastBroken(Machine machine, Language from, Language to) {
            Arrays.fill(words, 0);
            queued = 0;
            reach(0, BLANK_WORD);
            int start = 0;
            for (int length = 0; length < PLACES && start < queued; length++) {
                int stop = queued;
                int least = leastAmong(start, stop, machine, from, to);
                if (least != 0) {
                    return least == TOO_LONG ? NONE : least;
                }
                for (int at = start; at < stop; at++) {
                    goOn(queue[at], machine, from, to);
                }
                start = stop;
            }
            return 0;
        }

        private void reach(int place, int word) {
            if (words[place] == 0) {
                words[place] = word;
                queue[queued] = place;
                queued++;
            } else if (word < words[place]) {
                words[place] = word;
            }
        }

        private int leastAmong(int start, int stop, Machine machine, Language from, Language to) {
            int least = 0;
            for (int at = start; at < stop; at++) {
                int place = queue[at];
                boolean breaks = machine.isEnd(place / MOST_STATES / MOST_STATES)
                        && from.isEnd(place / MOST_STATES % MOST_STATES) && !to.isEnd(place % MOST_STATES);
                if (breaks && (least == 0 || words[place] < least)) {
                    least = words[place];
                }
            }
            return least;
        }

        private void goOn(int place, Machine machine, Language from, Language to) {
            int state = place / MOST_STATES / MOST_STATES;
            int ahead = place / MOST_STATES % MOST_STATES;
            int behind = place % MOST_STATES;
            for (int arc = 0; arc < machine.arcs; arc++) {
                if (machine.from[arc] == state) {
                    int word = words[place] * LETTERS + machine.read[arc];
                    int read = from.after(ahead, machine.read[arc]);
                    int wrote = machine.wrote[arc] == NONE ? behind : to.after(behind, machine.wrote[arc]);
                    reach((machine.to[arc] * MOST_STATES + read) * MOST_STATES + wrote, Math.min(word, TOO_LONG));
                }
            }
        }

        /** The first (0) or second (1) WORD of the first LOOP; 0 without one. */
        int loopWord(Machine machine, int what) {
            findLeads(machine);
            int bestLead = 0;
            int bestRound = 0;
            for (int state = 0; state < MACHINE_STATES; state++) {
                int round = leads[state] == 0 ? 0 : leastRound(machine, state);
                if (round != 0 && (bestLead == 0 || isBefore(leads[state], round, bestLead, bestRound))) {
                    bestLead = leads[state];
                    bestRound = round;
                }
            }
            return what == 0 ? bestLead : bestRound;
        }

        private static boolean isBefore(int lead, int round, int otherLead, int otherRound) {
            int letters = lengthOf(lead) + lengthOf(round);
            int otherLetters = lengthOf(otherLead) + lengthOf(otherRound);
            if (letters != otherLetters) {
                return letters < otherLetters;
            }
            return lead != otherLead ? lead < otherLead : round < otherRound;
        }

        /** For each STATE the least WORD with which one comes there from 0: a least one begins with a least one. */
        private void findLeads(Machine machine) {
            Arrays.fill(leads, 0);
            leads[0] = BLANK_WORD;
            for (int letters = 1; letters < MACHINE_STATES; letters++) {
                for (int arc = 0; arc < machine.arcs; arc++) {
                    int lead = leads[machine.from[arc]];
                    if (lead != 0) {
                        lower(leads, machine.to[arc], lead * LETTERS + machine.read[arc]);
                    }
                }
            }
        }

        private static void lower(int[] words, int place, int word) {
            if (words[place] == 0 || word < words[place]) {
                words[place] = word;
            }
        }

        /** The least WORD, not BLANK, from a STATE back to it by way of a FINAL one; 0 without one. */
        private int leastRound(Machine machine, int state) {
            Arrays.fill(rounds, 0);
            for (int arc = 0; arc < machine.arcs; arc++) {
                if (machine.from[arc] == state) {
                    int place = roundPlace(machine, machine.to[arc], machine.isEnd(state));
                    lower(rounds, place, LETTERS + machine.read[arc]);
                }
            }
            for (int letters = 2; letters <= LOOP_PLACES; letters++) {
                for (int place = 0; place < LOOP_PLACES; place++) {
                    if (rounds[place] != 0) {
                        extendRound(machine, place);
                    }
                }
            }
            return rounds[2 * state + 1];
        }

        private void extendRound(Machine machine, int place) {
            for (int arc = 0; arc < machine.arcs; arc++) {
                if (machine.from[arc] == place / 2) {
                    int word = rounds[place] * LETTERS + machine.read[arc];
                    lower(rounds, roundPlace(machine, machine.to[arc], place % 2 == 1), word);
                }
            }
        }

        // A place of a round: a STATE, and whether a FINAL one has been there so far.
        private static int roundPlace(Machine machine, int state, boolean hadEnd) {
            return 2 * state + (hadEnd || machine.isEnd(state) ? 1 : 0);
        }
    }

    /** Goes through all that a MACHINE writes for a WORD. */
    private static final class Writings {
        // For each number of LETTERS read, and each WORD that can be written by then, the set of STATES with it.
        private final int[] states = new int[firstPlace(MOST_READ_LETTERS + 1)];

        /** The k-th of the WORDS that are written for a WORD; 0 without one. */
        int writtenFor(Machine machine, int word, int k) {
            int length = lengthOf(word);
            readFrom(machine, word, 0);
            int first = firstPlace(length);
            int left = k;
            for (int written = 1; written < wordsUpTo(length); written++) {
                if ((states[first + written] & machine.ends) != 0) {
                    if (left == 0) {
                        return written;
                    }
                    left--;
                }
            }
            return 0;
        }

        /** The least WORD up to a length for which several are written; 0 without one. */
        int leastWithSeveral(Machine machine, int letters) {
            for (int length = 0; length <= letters; length++) {
                int start = 1 << 2 * length;
                for (int word = start; word < 2 * start; word++) {
                    // The WORD before differs only in the zeros at the end, and in the LETTER ahead of them.
                    int changed = 1 + Integer.numberOfTrailingZeros(word) / 2;
                    readFrom(machine, word, Math.max(0, length - changed));
                    if (hasSeveral(machine, length)) {
                        return word;
                    }
                }
            }
            return 0;
        }

        private boolean hasSeveral(Machine machine, int length) {
            int first = firstPlace(length);
            int found = 0;
            for (int written = 1; written < wordsUpTo(length) && found < 2; written++) {
                if ((states[first + written] & machine.ends) != 0) {
                    found++;
                }
            }
            return found > 1;
        }

        private void readFrom(Machine machine, int word, int start) {
            int length = lengthOf(word);
            states[1] = 1;
            for (int at = start; at < length; at++) {
                readLetter(machine, at, word >> 2 * (length - 1 - at) & 3);
            }
        }

        private void readLetter(Machine machine, int at, int letter) {
            int now = firstPlace(at);
            int then = firstPlace(at + 1);
            Arrays.fill(states, then, then + wordsUpTo(at + 1), 0);
            for (int written = 1; written < wordsUpTo(at); written++) {
                int set = states[now + written];
                for (int arc = 0; set != 0 && arc < machine.arcs; arc++) {
                    if (machine.read[arc] == letter && (set >> machine.from[arc] & 1) != 0) {
                        int out = machine.wrote[arc];
                        int longer = out == NONE ? written : written * LETTERS + out;
                        states[then + longer] |= 1 << machine.to[arc];
                    }
                }
            }
        }

        private static int wordsUpTo(int length) {
            return 2 << 2 * length;
        }

        private static int firstPlace(int length) {
            return (wordsUpTo(length) - 2) / 3;
        }
    }

    /** VARIABLES with their domains, EQUATIONS, and the first SOLUTION as long as nothing changes. */
    private static final class Equations {
        final int[] language = new int[VARIABLES];
        final int[] most = new int[VARIABLES];
        int count;
        // SIDE by SIDE, of EQUATION by EQUATION.
        final int[] symbols = new int[MOST_EQUATIONS * 2 * MOST_SYMBOLS];
        final int[] lengths = new int[MOST_EQUATIONS * 2];
        boolean isSolved;
        int found;
        final int[] first = new int[VARIABLES];

        Equations() {
            Arrays.fill(language, 1);
            Arrays.fill(most, 1);
        }

        int tellDomain(int variable, int newLanguage, int newMost) {
            int before = most[variable];
            language[variable] = newLanguage;
            most[variable] = newMost;
            isSolved = false;
            return before;
        }

        int add() {
            lengths[2 * count] = 0;
            lengths[2 * count + 1] = 0;
            count++;
            isSolved = false;
            return count - 1;
        }

        int extend(int side, int symbol) {
            symbols[side * MOST_SYMBOLS + lengths[side]] = symbol;
            lengths[side]++;
            isSolved = false;
            return lengths[side];
        }

        int takeLast() {
            count--;
            isSolved = false;
            return count;
        }

        int symbolCount() {
            int sum = 0;
            for (int side = 0; side < 2 * count; side++) {
                sum += lengths[side];
            }
            return sum;
        }

        void keep(Solver solver) {
            found = solver.found;
            System.arraycopy(solver.first, 0, first, 0, VARIABLES);
            isSolved = true;
        }
    }

    /**
     * Counts SOLUTIONS, case by case of how many LETTERS each VARIABLE has. In a case the EQUATIONS only say which
     * letters of VARIABLES are the same, or are LETTERS that are known; VARIABLES that share none are free of
     * each other.
     */
    private static final class Solver {
        private static final int LENGTHS = MOST_OF_MOST + 1;
        private static final int CASES = LENGTHS * LENGTHS * LENGTHS * LENGTHS;
        private static final int SIDE_LETTERS = MOST_SYMBOLS * MOST_OF_MOST;
        private static final int FIRST_KNOWN = VARIABLES * MOST_OF_MOST;

        int found;
        final int[] first = new int[VARIABLES];
        // For each VARIABLE and number of LETTERS, the set of WORDS that it may be.
        private final int[] allowed = new int[VARIABLES * LENGTHS];
        private final int[] length = new int[VARIABLES];
        // The places of the letters of VARIABLES, then the known LETTERS: those that are the same have the same tie.
        private final int[] ties = new int[FIRST_KNOWN + LETTERS];
        private final int[] spelled = new int[2 * SIDE_LETTERS];
        private final int[] team = new int[VARIABLES];
        private final int[] open = new int[FIRST_KNOWN];
        private int opened;
        private final int[] values = new int[FIRST_KNOWN + LETTERS];
        private final int[] guess = new int[VARIABLES];

        void solve(Equations system, Language[] languages) {
            allow(system, languages);
            found = 0;
            Arrays.fill(first, 0);
            int fewest = FIRST_KNOWN + 1;
            for (int number = 0; number < CASES; number++) {
                begin(number);
                if (!isAllowed() || !tieAll(system)) {
                    continue;
                }
                int here = countCase();
                found += here;
                int letters = length[0] + length[1] + length[2] + length[3];
                if (here > 0 && (letters < fewest || letters == fewest && isGuessBefore())) {
                    fewest = letters;
                    System.arraycopy(guess, 0, first, 0, VARIABLES);
                }
            }
        }

        private boolean isGuessBefore() {
            for (int v = 0; v < VARIABLES; v++) {
                if (guess[v] != first[v]) {
                    return guess[v] < first[v];
                }
            }
            return false;
        }

        private void allow(Equations system, Language[] languages) {
            Arrays.fill(allowed, 0);
            for (int v = 0; v < VARIABLES; v++) {
                for (int letters = 0; letters <= system.most[v]; letters++) {
                    int start = 1 << 2 * letters;
                    for (int i = 0; i < start; i++) {
                        if (languages[system.language[v]].holds(start + i)) {
                            allowed[v * LENGTHS + letters] |= 1 << i;
                        }
                    }
                }
            }
        }

        private void begin(int number) {
            int left = number;
            for (int v = 0; v < VARIABLES; v++) {
                length[v] = left % LENGTHS;
                left /= LENGTHS;
            }
            for (int i = 0; i < ties.length; i++) {
                ties[i] = i;
            }
            for (int letter = 0; letter < LETTERS; letter++) {
                values[FIRST_KNOWN + letter] = letter;
            }
        }

        private boolean isAllowed() {
            for (int v = 0; v < VARIABLES; v++) {
                if (allowed[v * LENGTHS + length[v]] == 0) {
                    return false;
                }
            }
            return true;
        }

        private boolean tieAll(Equations system) {
            for (int equation = 0; equation < system.count; equation++) {
                int letters = spell(system, 2 * equation, 0);
                if (spell(system, 2 * equation + 1, SIDE_LETTERS) != letters) {
                    return false;
                }
                for (int i = 0; i < letters; i++) {
                    if (!tie(ties[spelled[i]], ties[spelled[SIDE_LETTERS + i]])) {
                        return false;
                    }
                }
            }
            return true;
        }

        /** Puts the places of the letters of a SIDE into the row 'spelled'; answers how many there are. */
        private int spell(Equations system, int side, int start) {
            int letters = 0;
            for (int i = 0; i < system.lengths[side]; i++) {
                int symbol = system.symbols[side * MOST_SYMBOLS + i];
                if (symbol < LETTERS) {
                    spelled[start + letters] = FIRST_KNOWN + symbol;
                    letters++;
                } else {
                    int v = symbol - FIRST_VARIABLE_SYMBOL;
                    for (int at = 0; at < length[v]; at++) {
                        spelled[start + letters] = v * MOST_OF_MOST + at;
                        letters++;
                    }
                }
            }
            return letters;
        }

        // The larger tie stays, so that a known LETTER does; two different ones cannot be the same.
        private boolean tie(int one, int other) {
            int kept = Math.max(one, other);
            int dropped = Math.min(one, other);
            if (kept != dropped && dropped >= FIRST_KNOWN) {
                return false;
            }
            for (int i = 0; i < ties.length; i++) {
                if (ties[i] == dropped) {
                    ties[i] = kept;
                }
            }
            return true;
        }

        private int countCase() {
            findTeams();
            int product = 1;
            for (int number = 0; number < VARIABLES && product > 0; number++) {
                product *= countTeam(number);
            }
            return product;
        }

        /** VARIABLES that share letters come into one team, that with the number of the last of them. */
        private void findTeams() {
            for (int v = 0; v < VARIABLES; v++) {
                team[v] = v;
                for (int u = 0; u < v; u++) {
                    if (team[u] != v && sharesLetter(u, v)) {
                        joinTeams(team[u], v);
                    }
                }
            }
        }

        private void joinTeams(int from, int to) {
            for (int v = 0; v < to; v++) {
                if (team[v] == from) {
                    team[v] = to;
                }
            }
        }

        private boolean sharesLetter(int u, int v) {
            for (int i = 0; i < length[u]; i++) {
                for (int j = 0; j < length[v]; j++) {
                    int tie = ties[u * MOST_OF_MOST + i];
                    if (tie < FIRST_KNOWN && tie == ties[v * MOST_OF_MOST + j]) {
                        return true;
                    }
                }
            }
            return false;
        }

        /** How many ways there are for the VARIABLES of a team (1, if it has none); the first comes into 'guess'. */
        private int countTeam(int number) {
            openLetters(number);
            int count = 0;
            for (int code = 0; code < 1 << 2 * opened; code++) {
                for (int i = 0; i < opened; i++) {
                    values[open[i]] = code >> 2 * (opened - 1 - i) & 3;
                }
                if (isTeamAllowed(number)) {
                    if (count == 0) {
                        keepGuess(number);
                    }
                    count++;
                }
            }
            return count;
        }

        /** Puts the ties of a team that have no known LETTER into the row 'open', as they come. */
        private void openLetters(int number) {
            opened = 0;
            for (int v = 0; v < VARIABLES; v++) {
                for (int at = 0; team[v] == number && at < length[v]; at++) {
                    int tie = ties[v * MOST_OF_MOST + at];
                    if (tie < FIRST_KNOWN && !isOpen(tie)) {
                        open[opened] = tie;
                        opened++;
                    }
                }
            }
        }

        private boolean isOpen(int tie) {
            for (int i = 0; i < opened; i++) {
                if (open[i] == tie) {
                    return true;
                }
            }
            return false;
        }

        private boolean isTeamAllowed(int number) {
            for (int v = 0; v < VARIABLES; v++) {
                if (team[v] == number) {
                    int place = wordOf(v) - (1 << 2 * length[v]);
                    if ((allowed[v * LENGTHS + length[v]] >> place & 1) == 0) {
                        return false;
                    }
                }
            }
            return true;
        }

        private void keepGuess(int number) {
            for (int v = 0; v < VARIABLES; v++) {
                if (team[v] == number) {
                    guess[v] = wordOf(v);
                }
            }
        }

        private int wordOf(int v) {
            int word = BLANK_WORD;
            for (int at = 0; at < length[v]; at++) {
                word = word * LETTERS + values[ties[v * MOST_OF_MOST + at]];
            }
            return word;
        }
    }

    /** SCHEMAS, and the DOCUMENT. */
    private static final class Schemas {
        int count;
        // The LANGUAGE beneath each LETTER, SCHEMA by SCHEMA.
        final int[] content = new int[MOST_SCHEMAS * LETTERS];
        int nodes;
        private final int[] parents = new int[MOST_NODES];
        private final int[] letters = new int[MOST_NODES];
        // For each LETTER how many NODES the smallest DOCUMENT has; NONE without one.
        final int[] weights = new int[LETTERS];
        private final int[] distances = new int[MOST_STATES];
        private final Machine copier = new Machine();

        int childrenOf(int parent) {
            int sum = 0;
            for (int n = 0; n < nodes; n++) {
                if (parents[n] == parent) {
                    sum++;
                }
            }
            return sum;
        }

        int addNode(int parent, int letter) {
            if (parent == NONE) {
                nodes = 0;
            }
            parents[nodes] = parent;
            letters[nodes] = letter;
            nodes++;
            return nodes - 1;
        }

        int firstMisfit(int schema, Language[] languages) {
            for (int n = 0; n < nodes; n++) {
                if (!isFit(n, languages[content[schema * LETTERS + letters[n]]])) {
                    return n;
                }
            }
            return NONE;
        }

        private boolean isFit(int parent, Language language) {
            int state = 0;
            for (int n = parent + 1; n < nodes; n++) {
                if (parents[n] == parent) {
                    state = language.after(state, letters[n]);
                }
            }
            return language.isEnd(state);
        }

        // No LETTER stands beneath itself in a smallest DOCUMENT, so that each of four rounds settles one at least.
        void weigh(int schema, Language[] languages) {
            Arrays.fill(weights, NONE);
            for (int round = 0; round < LETTERS; round++) {
                for (int letter = 0; letter < LETTERS; letter++) {
                    int lightest = lightestWord(languages[content[schema * LETTERS + letter]]);
                    weights[letter] = lightest == NONE ? NONE : lightest + 1;
                }
            }
        }

        /** The least sum of weights of the LETTERS of a WORD of a LANGUAGE; NONE without one. */
        private int lightestWord(Language language) {
            Arrays.fill(distances, NONE);
            distances[0] = 0;
            for (int round = 1; round < language.size; round++) {
                for (int state = 0; state < language.size; state++) {
                    for (int letter = 0; letter < LETTERS; letter++) {
                        if (distances[state] != NONE && weights[letter] != NONE) {
                            shorten(language.after(state, letter), distances[state] + weights[letter]);
                        }
                    }
                }
            }
            int lightest = NONE;
            for (int state = 0; state < language.size; state++) {
                boolean isEnd = distances[state] != NONE && language.isEnd(state);
                if (isEnd && (lightest == NONE || distances[state] < lightest)) {
                    lightest = distances[state];
                }
            }
            return lightest;
        }

        private void shorten(int state, int distance) {
            if (distances[state] == NONE || distance < distances[state]) {
                distances[state] = distance;
            }
        }

        /** The first LETTER at the top of a DOCUMENT that FITS the SCHEMA 'one', and not 'other'; NONE without one. */
        int firstStray(int one, int other, Language[] languages, Search search) {
            weigh(one, languages);
            int possible = 0;
            for (int letter = 0; letter < LETTERS; letter++) {
                if (weights[letter] != NONE) {
                    possible |= 1 << letter;
                }
            }
            int strays = directStrays(one, other, possible, languages, search);
            // A LETTER goes astray too if one that does can stand beneath it: at most four levels down.
            for (int round = 1; round < LETTERS; round++) {
                for (int letter = 0; letter < LETTERS; letter++) {
                    int under = languages[content[one * LETTERS + letter]].lettersAmong(possible);
                    if ((possible >> letter & 1) != 0 && (under & strays) != 0) {
                        strays |= 1 << letter;
                    }
                }
            }
            return strays == 0 ? NONE : Integer.numberOfTrailingZeros(strays);
        }

        /** The LETTERS beneath which one SCHEMA allows a WORD of possible LETTERS that the other one does not. */
        private int directStrays(int one, int other, int possible, Language[] languages, Search search) {
            int strays = 0;
            copier.becomeCopier(possible);
            for (int letter = 0; letter < LETTERS; letter++) {
                Language ours = languages[content[one * LETTERS + letter]];
                Language theirs = languages[content[other * LETTERS + letter]];
                if (search.leastBroken(copier, ours, theirs) != 0) {
                    strays |= 1 << letter;
                }
            }
            return strays;
        }
    }

    /** The PROGRAM, and the SPANS to which it leads as long as nothing changes. */
    private static final class Program {
        // From the 6th ROUND on each SPAN changes once more at most, so that there are far fewer.
        private static final int MOST_ROUNDS = 1000;

        int count;
        final int[] sorts = new int[MOST_STEPS];
        final int[] as = new int[MOST_STEPS];
        final int[] bs = new int[MOST_STEPS];
        private final int[] cs = new int[MOST_STEPS];
        // Place by place: those of the STEPS, and that of the END.
        final boolean[] came = new boolean[MOST_STEPS + 1];
        final Language[] spans = new Language[(MOST_STEPS + 1) * STRINGS];
        int rounds;
        private boolean isSeen;
        private final Language[] passed = new Language[STRINGS];
        private final Language whole = new Language();
        private final Language merged = new Language();

        Program() {
            for (int i = 0; i < spans.length; i++) {
                spans[i] = new Language();
            }
            for (int i = 0; i < STRINGS; i++) {
                passed[i] = new Language();
            }
        }

        int add(int sort, int a, int b, int c) {
            sorts[count] = sort;
            as[count] = a;
            bs[count] = b;
            cs[count] = c;
            count++;
            forget();
            return count - 1;
        }

        void forget() {
            isSeen = false;
        }

        /** The END stands for each STEP behind the last one. */
        int placeOf(int step) {
            return step < count ? step : END;
        }

        void lookThrough(Language[] languages, Machine[] machines, Workshop workshop) {
            if (isSeen) {
                return;
            }
            isSeen = true;
            rounds = 0;
            begin();
            boolean changed = count > 0;
            while (changed && rounds < MOST_ROUNDS) {
                rounds++;
                changed = false;
                for (int step = 0; step < count; step++) {
                    if (!came[step]) {
                        continue;
                    }
                    take(step);
                    boolean changes = sorts[step] == IF
                            ? passParts(step, languages[bs[step]], workshop)
                            : passOn(step, languages, machines, workshop);
                    if (changes) {
                        changed = true;
                    }
                }
            }
        }

        private void begin() {
            for (int place = 0; place <= END; place++) {
                came[place] = false;
            }
            came[0] = count > 0;
            for (int string = 0; string < STRINGS; string++) {
                spans[string].becomeBlank();
            }
        }

        private void take(int step) {
            for (int string = 0; string < STRINGS; string++) {
                passed[string].take(spans[step * STRINGS + string]);
            }
        }

        /** Passes on what comes of a STEP that is no IF; answers whether that changes anything. */
        private boolean passOn(int step, Language[] languages, Machine[] machines, Workshop workshop) {
            Language a = passed[as[step]];
            int b = bs[step];
            switch (sorts[step]) {
                case ANY:
                    a.take(languages[b]);
                    break;
                case COPY:
                    a.take(passed[b]);
                    break;
                case ADD:
                    widenUnless(workshop.joined(a, passed[b], a), a);
                    break;
                case PASS:
                    widenUnless(workshop.written(machines[b], a, a), a);
                    break;
                case GO:
                    return comeTo(placeOf(cs[step]), workshop);
                default:
                    break;
            }
            return !a.isNothing() && comeTo(placeOf(step + 1), workshop);
        }

        private static void widenUnless(boolean fits, Language language) {
            if (!fits) {
                language.becomeAll();
            }
        }

        /** Passes on what comes of an IF; both parts are of what it had, also if the first comes to the IF itself. */
        private boolean passParts(int step, Language language, Workshop workshop) {
            Language part = passed[as[step]];
            whole.take(part);
            widenUnless(workshop.combined(whole, language, MAKE_BOTH, part), part);
            boolean changed = !part.isNothing() && comeTo(placeOf(cs[step]), workshop);
            widenUnless(workshop.combined(whole, language, MAKE_WITHOUT, part), part);
            boolean changedNext = !part.isNothing() && comeTo(placeOf(step + 1), workshop);
            return changed || changedNext;
        }

        private boolean comeTo(int place, Workshop workshop) {
            boolean changed = !came[place];
            for (int string = 0; string < STRINGS; string++) {
                Language there = spans[place * STRINGS + string];
                if (!came[place]) {
                    there.take(passed[string]);
                } else if (!there.sameAs(passed[string])) {
                    widenUnless(workshop.combined(there, passed[string], MAKE_OR, merged), merged);
                    if (!merged.sameAs(there)) {
                        there.take(merged);
                        widenUnless(rounds < FIRST_WIDE_ROUND, there);
                        changed = true;
                    }
                }
            }
            came[place] = true;
            return changed;
        }
    }
}
