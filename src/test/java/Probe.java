import java.util.function.IntSupplier;
import java.util.function.Supplier;

/** Asks for all that can be found out of an object, also by calls that change it; for each part there is a new one. */
final class Probe {
    private final StringBuilder found = new StringBuilder();
    private WordWright x;

    private Probe() {
    }

    /** Each object that the maker makes has had 250 calls at most, so that each part may have as many. */
    static String of(Supplier<WordWright> maker) {
        Probe probe = new Probe();
        probe.x = maker.get();
        int machines = probe.x.many(1);
        probe.askAll();
        for (int m = 0; m < machines; m++) {
            probe.x = maker.get();
            probe.askMachine(m);
        }
        probe.x = maker.get();
        probe.askEquations();
        probe.x = maker.get();
        probe.askSchemas();
        probe.x = maker.get();
        probe.addAll();
        return probe.found.toString();
    }

    private void note(IntSupplier call) {
        found.append(' ').append(Check.answer(call::getAsInt));
    }

    /** Notes how often a call can be made; it is refused at last. */
    private void noteTimes(Check.Call call) {
        int times = 0;
        while (times < 100 && !String.valueOf(Check.answer(call)).startsWith("throws")) {
            times++;
        }
        found.append(' ').append(times);
    }

    private void askAll() {
        found.append(x.digest()).append(' ').append(x.meanSize());
        for (int what = 0; what <= 9; what++) {
            int w = what;
            note(() -> x.many(w));
        }
        note(x::solutions);
        for (int i = 0; i < 12; i++) {
            int variable = i / 3;
            int most = i % 3;
            note(() -> x.solutionsWith(variable, most));
        }
    }

    /** What it writes with all, or each one, of the STATES as FINAL ones tells the ARCS. */
    private void askMachine(int machine) {
        note(() -> x.breaks(machine, 1, 0));
        note(() -> x.wouldSize(13, machine, 0));
        for (int ends : new int[] {15, 1, 2, 4, 8}) {
            note(() -> x.finals(machine, ends));
            for (int i = 0; i < 21; i++) {
                int word = Check.word(Check.words(2)[i]);
                note(() -> x.writes(machine, word, 0));
                note(() -> x.writes(machine, word, 1));
            }
        }
    }

    private void askEquations() {
        for (int v = 0; v < 4; v++) {
            int variable = v;
            note(() -> x.solved(variable));
            note(() -> x.domain(variable, 1, 1));
        }
        for (int e = x.many(3); e > 0; e--) {
            int equation = e - 1;
            note(x::solutions);
            noteTimes(() -> x.symbol(equation, 0, 0));
            noteTimes(() -> x.symbol(equation, 1, 0));
            note(x::undo);
        }
    }

    /** A SCHEMA with nothing beneath one LETTER, and all beneath the others, tells the first NODE with that LETTER. */
    private void askSchemas() {
        for (int s = 0; s < x.many(5); s++) {
            int schema = s;
            for (int letter = 0; letter < 4; letter++) {
                int l = letter;
                note(() -> x.beneath(schema, l, 1));
            }
            for (int letter = 0; letter < 4 && x.many(6) > 0; letter++) {
                x.beneath(s, letter, 0);
                note(() -> x.misfit(schema));
                x.beneath(s, letter, 1);
            }
        }
        for (int n = x.many(6) - 1; n >= 0; n--) {
            int parent = n;
            noteTimes(() -> x.node(parent, 3));
        }
    }

    private void addAll() {
        noteTimes(() -> x.step(5, 0, 0, 0));
        note(x::clear);
        for (int m = 0; m < x.many(1); m++) {
            int machine = m;
            noteTimes(() -> x.arc(machine, 0, 0, 0, 0));
        }
        noteTimes(x::machine);
        noteTimes(x::equation);
        noteTimes(x::schema);
        for (int kind = 0; kind < 4; kind++) {
            int k = kind;
            note(() -> x.make(k, 0, 0));
        }
        found.append(' ').append(x.digest());
    }
}
