import java.util.function.IntSupplier;

/** Asks for all that can be found out of an object, also by calls that change it: it is of no use behind that. */
final class Probe {
    private final WordWright x;
    private final StringBuilder found = new StringBuilder();

    private Probe(WordWright x) {
        this.x = x;
    }

    static String of(WordWright x) {
        Probe probe = new Probe(x);
        probe.found.append(x.digest()).append(' ').append(x.meanSize());
        probe.askMachines();
        probe.askEquations();
        probe.askProgram();
        probe.askSchemas();
        probe.addAll();
        return probe.found.toString();
    }

    private void note(IntSupplier call) {
        found.append(' ').append(Check.answer(call::getAsInt));
    }

    /** Notes how often a call can be made; it is refused at last. */
    private void noteTimes(Check.Call call) {
        int times = 0;
        while (times < 100 && !String.valueOf(Check.answer(call)).startsWith("throws")) {
            times++;
        }
        found.append(' ').append(times);
    }

    /** What they write with all STATES as FINAL ones tells the ARCS. */
    private void askMachines() {
        for (int m = 0; m < x.many(1); m++) {
            int machine = m;
            note(() -> x.breaks(machine, 1, 0));
            note(() -> x.wouldSize(13, machine, 0));
            for (int ends : new int[] {15, 1, 2, 4, 8}) {
                note(() -> x.finals(machine, ends));
                for (int i = 0; i < 21; i++) {
                    int word = Check.word(Check.words(2)[i]);
                    note(() -> x.writes(machine, word, 0));
                    note(() -> x.writes(machine, word, 1));
                }
            }
        }
    }

    private void askEquations() {
        note(x::solutions);
        for (int v = 0; v < 4; v++) {
            int variable = v;
            note(() -> x.solved(variable));
            for (int most = 0; most <= 2; most++) {
                int m = most;
                note(() -> x.solutionsWith(variable, m));
            }
        }
        for (int v = 0; v < 4; v++) {
            int variable = v;
            note(() -> x.domain(variable, 1, 1));
        }
        for (int e = x.many(3); e > 0; e--) {
            int equation = e - 1;
            note(x::solutions);
            noteTimes(() -> x.symbol(equation, 0, 0));
            noteTimes(() -> x.symbol(equation, 1, 0));
            note(x::undo);
        }
    }

    private void askProgram() {
        for (int s = 0; s < x.many(7); s++) {
            int step = s;
            note(() -> x.bad(step));
        }
        noteTimes(() -> x.step(5, 0, 0, 0));
        note(x::clear);
    }

    /** A SCHEMA with nothing beneath one LETTER, and all beneath the others, tells the first NODE with that LETTER. */
    private void askSchemas() {
        for (int s = 0; s < x.many(5); s++) {
            int schema = s;
            for (int letter = 0; letter < 4; letter++) {
                int l = letter;
                note(() -> x.beneath(schema, l, 1));
            }
            for (int letter = 0; letter < 4 && x.many(6) > 0; letter++) {
                x.beneath(s, letter, 0);
                note(() -> x.misfit(schema));
                x.beneath(s, letter, 1);
            }
        }
        for (int n = x.many(6) - 1; n >= 0; n--) {
            int parent = n;
            noteTimes(() -> x.node(parent, 3));
        }
    }

    private void addAll() {
        for (int m = 0; m < x.many(1); m++) {
            int machine = m;
            noteTimes(() -> x.arc(machine, 0, 0, 0, 0));
        }
        noteTimes(x::machine);
        noteTimes(x::equation);
        noteTimes(x::schema);
        for (int kind = 0; kind < 4; kind++) {
            int k = kind;
            note(() -> x.make(k, 0, 0));
        }
        found.append(' ').append(x.digest());
    }
}
