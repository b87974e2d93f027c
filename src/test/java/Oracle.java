import java.util.ArrayList;
import java.util.Arrays;
import java.util.HashMap;
import java.util.HashSet;
import java.util.LinkedHashMap;
import java.util.List;
import java.util.Map;
import java.util.Set;
import java.util.TreeSet;

/** The document once more, slow and plain, with the library's sets and maps: what WordWright is compared with. */
final class Oracle {
    /** An automaton with states of any kind. */
    interface Automaton<S> {
        S start();

        S next(S state, int letter);

        boolean isEnd(S state);
    }

    /** A smallest automaton: a row for each STATE, with 1 at its end if a WORD is in the LANGUAGE there. */
    record Tongue(List<List<Integer>> rows) {
        int size() {
            return rows.size();
        }

        boolean end(int state) {
            return rows.get(state).get(4) == 1;
        }

        int next(int state, int letter) {
            return rows.get(state).get(letter);
        }

        boolean holds(String word) {
            int state = 0;
            for (char c : word.toCharArray()) {
                state = next(state, c - '0');
            }
            return end(state);
        }

        boolean isNothing() {
            return equals(NOTHING);
        }
    }

    static final Tongue NOTHING = new Tongue(List.of(List.of(0, 0, 0, 0, 0)));
    static final Tongue ALL = new Tongue(List.of(List.of(0, 0, 0, 0, 1)));
    static final Tongue BLANK = new Tongue(List.of(List.of(1, 1, 1, 1, 1), List.of(1, 1, 1, 1, 0)));

    record Arc(int from, int read, int to, int wrote) {
    }

    static final class Device {
        final List<Arc> arcs = new ArrayList<>();
        int finals;

        boolean isFinal(int state) {
            return (finals >> state & 1) != 0;
        }
    }

    record Step(int sort, int a, int b, int c) {
    }

    record Node(int parent, int letter) {
    }

    final List<Tongue> tongues = new ArrayList<>(List.of(NOTHING, ALL));
    final List<Device> devices = new ArrayList<>();
    final int[] domainOf = {1, 1, 1, 1};
    final int[] mostOf = {1, 1, 1, 1};
    final List<List<List<Integer>>> equations = new ArrayList<>();
    final List<int[]> schemas = new ArrayList<>();
    final List<Node> nodes = new ArrayList<>();
    final List<Step> steps = new ArrayList<>();
    List<String> firstSolution;
    int solutionCount = -1;

    // ---- automata

    /** The smallest automaton, or null if it has more than 10 STATES, or there are more states than the limit. */
    static <S> Tongue smallest(Automaton<S> automaton, int limit) {
        Map<S, Integer> index = new LinkedHashMap<>();
        List<S> states = new ArrayList<>();
        List<int[]> moves = new ArrayList<>();
        index.put(automaton.start(), 0);
        states.add(automaton.start());
        for (int i = 0; i < states.size(); i++) {
            int[] row = new int[4];
            for (int letter = 0; letter < 4; letter++) {
                S next = automaton.next(states.get(i), letter);
                Integer known = index.get(next);
                if (known == null) {
                    known = states.size();
                    index.put(next, known);
                    states.add(next);
                }
                row[letter] = known;
            }
            moves.add(row);
            if (states.size() > limit) {
                return null;
            }
        }
        int[] block = new int[states.size()];
        for (int i = 0; i < block.length; i++) {
            block[i] = automaton.isEnd(states.get(i)) ? 1 : 0;
        }
        int blocks = 0;
        while (true) {
            Map<List<Integer>, Integer> finer = new HashMap<>();
            int[] next = new int[block.length];
            for (int i = 0; i < block.length; i++) {
                int[] row = moves.get(i);
                List<Integer> sign = List.of(block[i], block[row[0]], block[row[1]], block[row[2]], block[row[3]]);
                Integer known = finer.get(sign);
                if (known == null) {
                    known = finer.size();
                    finer.put(sign, known);
                }
                next[i] = known;
            }
            block = next;
            if (finer.size() > 10) {
                return null;
            }
            if (finer.size() == blocks) {
                break;
            }
            blocks = finer.size();
        }
        return numbered(automaton, states, moves, block);
    }

    private static <S> Tongue numbered(Automaton<S> automaton, List<S> states, List<int[]> moves, int[] block) {
        List<Integer> samples = new ArrayList<>(List.of(0));
        Map<Integer, Integer> number = new HashMap<>(Map.of(block[0], 0));
        List<List<Integer>> rows = new ArrayList<>();
        for (int i = 0; i < samples.size(); i++) {
            List<Integer> row = new ArrayList<>();
            for (int letter = 0; letter < 4; letter++) {
                int next = moves.get(samples.get(i))[letter];
                if (!number.containsKey(block[next])) {
                    number.put(block[next], samples.size());
                    samples.add(next);
                }
                row.add(number.get(block[next]));
            }
            row.add(automaton.isEnd(states.get(samples.get(i))) ? 1 : 0);
            rows.add(row);
        }
        return new Tongue(rows);
    }

    /** An automaton that may be in several states at once, and may move without a letter (letter -1). */
    abstract static class Loose implements Automaton<Set<List<Integer>>> {
        abstract List<List<Integer>> starts();

        abstract List<List<Integer>> moves(List<Integer> state, int letter);

        abstract boolean ends(List<Integer> state);

        private Set<List<Integer>> closed(Set<List<Integer>> set) {
            List<List<Integer>> todo = new ArrayList<>(set);
            while (!todo.isEmpty()) {
                for (List<Integer> next : moves(todo.remove(todo.size() - 1), -1)) {
                    if (set.add(next)) {
                        todo.add(next);
                    }
                }
            }
            return set;
        }

        @Override
        public Set<List<Integer>> start() {
            return closed(new HashSet<>(starts()));
        }

        @Override
        public Set<List<Integer>> next(Set<List<Integer>> states, int letter) {
            Set<List<Integer>> set = new HashSet<>();
            for (List<Integer> state : states) {
                set.addAll(moves(state, letter));
            }
            return closed(set);
        }

        @Override
        public boolean isEnd(Set<List<Integer>> states) {
            for (List<Integer> state : states) {
                if (ends(state)) {
                    return true;
                }
            }
            return false;
        }
    }

    static Tongue joined(Tongue a, Tongue b) {
        return smallest(new Loose() {
            List<List<Integer>> starts() {
                return List.of(List.of(0, 0));
            }

            List<List<Integer>> moves(List<Integer> s, int letter) {
                if (letter < 0) {
                    return s.get(0) == 0 && a.end(s.get(1)) ? List.of(List.of(1, 0)) : List.of();
                }
                return List.of(List.of(s.get(0), (s.get(0) == 0 ? a : b).next(s.get(1), letter)));
            }

            boolean ends(List<Integer> s) {
                return s.get(0) == 1 && b.end(s.get(1));
            }
        }, Integer.MAX_VALUE);
    }

    static Tongue star(Tongue a) {
        return smallest(new Loose() {
            List<List<Integer>> starts() {
                return List.of(List.of(-1));
            }

            List<List<Integer>> moves(List<Integer> s, int letter) {
                int state = s.get(0);
                if (letter < 0) {
                    return state == -1 ? List.of(List.of(0)) : a.end(state) ? List.of(List.of(-1)) : List.of();
                }
                return state == -1 ? List.of() : List.of(List.of(a.next(state, letter)));
            }

            boolean ends(List<Integer> s) {
                return s.get(0) == -1;
            }
        }, Integer.MAX_VALUE);
    }

    static Tongue turned(Tongue a) {
        return smallest(new Loose() {
            List<List<Integer>> starts() {
                List<List<Integer>> all = new ArrayList<>();
                for (int s = 0; s < a.size(); s++) {
                    if (a.end(s)) {
                        all.add(List.of(s));
                    }
                }
                return all;
            }

            List<List<Integer>> moves(List<Integer> s, int letter) {
                List<List<Integer>> all = new ArrayList<>();
                for (int p = 0; letter >= 0 && p < a.size(); p++) {
                    if (a.next(p, letter) == s.get(0)) {
                        all.add(List.of(p));
                    }
                }
                return all;
            }

            boolean ends(List<Integer> s) {
                return s.get(0) == 0;
            }
        }, Integer.MAX_VALUE);
    }

    static Tongue heads(Tongue a) {
        return smallest(new Automaton<Integer>() {
            public Integer start() {
                return 0;
            }

            public Integer next(Integer s, int letter) {
                return a.next(s, letter);
            }

            public boolean isEnd(Integer s) {
                Set<Integer> seen = new HashSet<>(Set.of(s));
                List<Integer> todo = new ArrayList<>(List.of(s));
                for (int i = 0; i < todo.size(); i++) {
                    for (int letter = 0; letter < 4; letter++) {
                        int next = a.next(todo.get(i), letter);
                        if (seen.add(next)) {
                            todo.add(next);
                        }
                    }
                }
                return seen.stream().anyMatch(a::end);
            }
        }, Integer.MAX_VALUE);
    }

    /** 5 OR, 6 BOTH, 7 WITHOUT. */
    static Tongue combined(Tongue a, Tongue b, int kind) {
        return smallest(new Automaton<List<Integer>>() {
            public List<Integer> start() {
                return List.of(0, 0);
            }

            public List<Integer> next(List<Integer> s, int letter) {
                return List.of(a.next(s.get(0), letter), b.next(s.get(1), letter));
            }

            public boolean isEnd(List<Integer> s) {
                boolean one = a.end(s.get(0));
                boolean other = b.end(s.get(1));
                return kind == 5 ? one || other : kind == 6 ? one && other : one && !other;
            }
        }, Integer.MAX_VALUE);
    }

    static Tongue out(Device d, Tongue b) {
        return smallest(new Loose() {
            List<List<Integer>> starts() {
                return List.of(List.of(0, 0));
            }

            List<List<Integer>> moves(List<Integer> s, int letter) {
                List<List<Integer>> all = new ArrayList<>();
                for (Arc arc : d.arcs) {
                    if (arc.from == s.get(0) && arc.wrote == letter) {
                        all.add(List.of(arc.to, b.next(s.get(1), arc.read)));
                    }
                }
                return all;
            }

            boolean ends(List<Integer> s) {
                return d.isFinal(s.get(0)) && b.end(s.get(1));
            }
        }, 300);
    }

    static Tongue into(Device d, Tongue b) {
        return smallest(new Loose() {
            List<List<Integer>> starts() {
                return List.of(List.of(0, 0));
            }

            List<List<Integer>> moves(List<Integer> s, int letter) {
                List<List<Integer>> all = new ArrayList<>();
                for (Arc arc : d.arcs) {
                    if (arc.from == s.get(0) && arc.read == letter) {
                        all.add(List.of(arc.to, arc.wrote < 0 ? s.get(1) : b.next(s.get(1), arc.wrote)));
                    }
                }
                return all;
            }

            boolean ends(List<Integer> s) {
                return d.isFinal(s.get(0)) && b.end(s.get(1));
            }
        }, 300);
    }

    // ---- words

    static int number(String word) {
        int number = 1;
        for (char c : word.toCharArray()) {
            number = 4 * number + (c - '0');
        }
        return number;
    }

    static String spelled(int word) {
        StringBuilder text = new StringBuilder();
        for (int left = word; left > 1; left /= 4) {
            text.append(left % 4);
        }
        return text.reverse().toString();
    }

    static boolean isWord(int word) {
        long power = 1;
        for (int letters = 0; letters <= 10; letters++) {
            if (word >= power && word < 2 * power) {
                return true;
            }
            power *= 4;
        }
        return false;
    }

    private static boolean in(int value, int from, int to) {
        return value >= from && value <= to;
    }

    private static void need(boolean holds, RuntimeException e) {
        if (!holds) {
            throw e;
        }
    }

    private boolean isTongue(int language) {
        return in(language, 0, tongues.size() - 1);
    }

    private boolean isDevice(int machine) {
        return in(machine, 0, devices.size() - 1);
    }

    private static IndexOutOfBoundsException noIndex() {
        return new IndexOutOfBoundsException();
    }

    private static IllegalArgumentException noArgument() {
        return new IllegalArgumentException();
    }

    private static IllegalStateException noState() {
        return new IllegalStateException();
    }

    // ---- languages

    private Tongue made(int kind, int a, int b) {
        boolean fits = switch (kind) {
            case 0, 1, 3 -> a == 0 && b == 0;
            case 2 -> in(a, 0, 3) && b == 0;
            case 4, 5, 6, 7 -> isTongue(a) && isTongue(b);
            case 8, 9, 10 -> isTongue(a) && b == 0;
            case 11, 12 -> isDevice(a) && isTongue(b);
            case 13 -> isDevice(a) && b == 0;
            default -> false;
        };
        need(fits, noArgument());
        return switch (kind) {
            case 0 -> NOTHING;
            case 1 -> BLANK;
            case 2 -> smallest(new Automaton<String>() {
                public String start() {
                    return "";
                }

                public String next(String s, int letter) {
                    return s.length() > 1 ? s : s + letter;
                }

                public boolean isEnd(String s) {
                    return s.equals("" + a);
                }
            }, Integer.MAX_VALUE);
            case 3 -> ALL;
            case 4 -> joined(tongues.get(a), tongues.get(b));
            case 5, 6, 7 -> combined(tongues.get(a), tongues.get(b), kind);
            case 8 -> star(tongues.get(a));
            case 9 -> turned(tongues.get(a));
            case 10 -> heads(tongues.get(a));
            case 11 -> out(devices.get(a), tongues.get(b));
            case 12 -> into(devices.get(a), tongues.get(b));
            default -> readable(devices.get(a));
        };
    }

    /** What can be read is what can be read so that something of ALL is written; but no limit of sets holds there. */
    private static Tongue readable(Device d) {
        return into(d, ALL);
    }

    int make(int kind, int a, int b) {
        Tongue tongue = made(kind, a, b);
        need(tongue != null, noState());
        if (!tongues.contains(tongue)) {
            need(tongues.size() < 40, noState());
            tongues.add(tongue);
        }
        return tongues.indexOf(tongue);
    }

    int wouldSize(int kind, int a, int b) {
        Tongue tongue = made(kind, a, b);
        return tongue == null ? 0 : tongue.size();
    }

    /** What is told of a LANGUAGE, by the WORDS that are shorter than twice its SIZE. */
    static int fact(Tongue tongue, int what) {
        switch (what) {
            case 0:
                return tongue.size();
            case 1:
                int set = 0;
                for (int s = 0; s < tongue.size(); s++) {
                    set |= tongue.end(s) ? 1 << s : 0;
                }
                return set;
            case 2:
                String word = leastBeyond(tongue, NOTHING);
                return word == null ? 0 : number(word);
            case 3:
                return endless(tongue) ? 1 : 0;
            case 4:
                if (endless(tongue)) {
                    return -1;
                }
                int longest = -1;
                for (int n = 0; n <= tongue.size(); n++) {
                    longest = count(tongue, n) > 0 ? n : longest;
                }
                return longest;
            default:
                int letters = 0;
                for (int letter = 0; letter < 4; letter++) {
                    letters |= combined(tongue, withLetter(letter), 6) == null
                            || !combined(tongue, withLetter(letter), 6).isNothing() ? 1 << letter : 0;
                }
                return letters;
        }
    }

    private static Tongue withLetter(int letter) {
        return smallest(new Automaton<Boolean>() {
            public Boolean start() {
                return false;
            }

            public Boolean next(Boolean s, int l) {
                return s || l == letter;
            }

            public boolean isEnd(Boolean s) {
                return s;
            }
        }, Integer.MAX_VALUE);
    }

    // Without an end of WORDS there is a living STATE from which one comes back to it.
    private static boolean endless(Tongue tongue) {
        int n = tongue.size();
        boolean[][] path = new boolean[n][n];
        for (int s = 0; s < n; s++) {
            for (int letter = 0; letter < 4; letter++) {
                path[s][tongue.next(s, letter)] = true;
            }
        }
        for (int k = 0; k < n; k++) {
            for (int i = 0; i < n; i++) {
                for (int j = 0; j < n; j++) {
                    path[i][j] |= path[i][k] && path[k][j];
                }
            }
        }
        for (int s = 0; s < n; s++) {
            boolean lives = tongue.end(s);
            for (int e = 0; e < n; e++) {
                lives |= path[s][e] && tongue.end(e);
            }
            if (lives && path[s][s]) {
                return true;
            }
        }
        return false;
    }

    static long count(Tongue tongue, int letters) {
        long[] ways = new long[tongue.size()];
        ways[0] = 1;
        for (int i = 0; i < letters; i++) {
            long[] next = new long[tongue.size()];
            for (int s = 0; s < tongue.size(); s++) {
                for (int letter = 0; letter < 4; letter++) {
                    next[tongue.next(s, letter)] += ways[s];
                }
            }
            ways = next;
        }
        long sum = 0;
        for (int s = 0; s < tongue.size(); s++) {
            sum += tongue.end(s) ? ways[s] : 0;
        }
        return sum;
    }

    /** The least WORD of one that is not in the other, as long as it may be; null without one. */
    static String leastBeyond(Tongue one, Tongue other) {
        Device copier = new Device();
        copier.finals = 1;
        for (int letter = 0; letter < 4; letter++) {
            copier.arcs.add(new Arc(0, letter, 0, letter));
        }
        return leastBroken(copier, one, other);
    }

    /** Goes through the WORDS in order; a place that an earlier WORD leads to needs no later one. */
    static String leastBroken(Device d, Tongue from, Tongue to) {
        Set<List<Integer>> seen = new HashSet<>();
        List<Map.Entry<String, Set<List<Integer>>>> todo = new ArrayList<>();
        seen.add(List.of(0, 0, 0));
        todo.add(Map.entry("", Set.of(List.of(0, 0, 0))));
        for (int i = 0; i < todo.size(); i++) {
            String word = todo.get(i).getKey();
            for (List<Integer> p : todo.get(i).getValue()) {
                if (d.isFinal(p.get(0)) && from.end(p.get(1)) && !to.end(p.get(2))) {
                    return word;
                }
            }
            for (int letter = 0; letter < 4; letter++) {
                Set<List<Integer>> fresh = new HashSet<>();
                for (List<Integer> p : todo.get(i).getValue()) {
                    for (Arc arc : d.arcs) {
                        if (arc.from == p.get(0) && arc.read == letter) {
                            int wrote = arc.wrote < 0 ? p.get(2) : to.next(p.get(2), arc.wrote);
                            List<Integer> next = List.of(arc.to, from.next(p.get(1), letter), wrote);
                            if (seen.add(next)) {
                                fresh.add(next);
                            }
                        }
                    }
                }
                if (!fresh.isEmpty()) {
                    todo.add(Map.entry(word + letter, fresh));
                }
            }
        }
        return null;
    }

    int ofLanguage(int language, int what) {
        need(isTongue(language), noIndex());
        need(in(what, 0, 5), noArgument());
        return fact(tongues.get(language), what);
    }

    int next(int language, int state, int letter) {
        need(isTongue(language), noIndex());
        need(in(state, 0, tongues.get(language).size() - 1) && in(letter, 0, 3), noIndex());
        return tongues.get(language).next(state, letter);
    }

    boolean has(int language, int word) {
        need(isTongue(language), noIndex());
        need(isWord(word), noArgument());
        return tongues.get(language).holds(spelled(word));
    }

    int howMany(int language, int letters) {
        need(isTongue(language), noIndex());
        need(in(letters, 0, 12), noArgument());
        return (int) count(tongues.get(language), letters);
    }

    int beyond(int one, int other) {
        need(isTongue(one) && isTongue(other), noIndex());
        return numberOrThrow(leastBeyond(tongues.get(one), tongues.get(other)));
    }

    private static int numberOrThrow(String word) {
        if (word == null) {
            return 0;
        }
        need(word.length() <= 10, new ArithmeticException());
        return number(word);
    }

    // ---- machines

    int machine() {
        need(devices.size() < 6, noState());
        devices.add(new Device());
        return devices.size() - 1;
    }

    int arc(int machine, int from, int letter, int to, int out) {
        need(isDevice(machine), noIndex());
        need(in(from, 0, 3) && in(to, 0, 3) && in(letter, 0, 3) && in(out, -1, 3), noArgument());
        need(devices.get(machine).arcs.size() < 10, noState());
        devices.get(machine).arcs.add(new Arc(from, letter, to, out));
        return devices.get(machine).arcs.size() - 1;
    }

    int finals(int machine, int finals) {
        need(isDevice(machine), noIndex());
        need(in(finals, 0, 15), noArgument());
        int before = devices.get(machine).finals;
        devices.get(machine).finals = finals;
        return before;
    }

    private static TreeSet<Integer> written(Device d, String word) {
        Set<Map.Entry<Integer, String>> ways = new HashSet<>(Set.of(Map.entry(0, "")));
        for (char c : word.toCharArray()) {
            Set<Map.Entry<Integer, String>> longer = new HashSet<>();
            for (Map.Entry<Integer, String> way : ways) {
                for (Arc arc : d.arcs) {
                    if (arc.from == way.getKey() && arc.read == c - '0') {
                        longer.add(Map.entry(arc.to, way.getValue() + (arc.wrote < 0 ? "" : "" + arc.wrote)));
                    }
                }
            }
            ways = longer;
        }
        TreeSet<Integer> words = new TreeSet<>();
        for (Map.Entry<Integer, String> way : ways) {
            if (d.isFinal(way.getKey())) {
                words.add(number(way.getValue()));
            }
        }
        return words;
    }

    int writes(int machine, int word, int k) {
        need(isDevice(machine), noIndex());
        need(isWord(word) && spelled(word).length() <= 5 && k >= 0, noArgument());
        List<Integer> words = new ArrayList<>(written(devices.get(machine), spelled(word)));
        return k < words.size() ? words.get(k) : 0;
    }

    int several(int machine, int letters) {
        need(isDevice(machine), noIndex());
        need(in(letters, 0, 4), noArgument());
        for (int word = 1; word < 2 << 2 * letters; word++) {
            if (isWord(word) && written(devices.get(machine), spelled(word)).size() > 1) {
                return word;
            }
        }
        return 0;
    }

    int loop(int machine, int what) {
        need(isDevice(machine), noIndex());
        need(in(what, 0, 1), noArgument());
        Set<Object> dead = new HashSet<>();
        for (int letters = 1; letters <= 12; letters++) {
            for (int lead = 0; lead < letters; lead++) {
                String[] found = loopFrom(devices.get(machine), "", Set.of(0), lead, letters - lead, dead);
                if (found != null) {
                    return number(found[what]);
                }
            }
        }
        return 0;
    }

    /** The first LOOP whose first WORD begins so, with so many LETTERS left in it, and so many in the second one. */
    private static String[] loopFrom(Device d, String lead, Set<Integer> states, int left, int round, Set<Object> dead) {
        if (dead.contains(List.of(states, left, round))) {
            return null;
        }
        if (left == 0) {
            Set<List<Integer>> runs = new HashSet<>();
            for (int s : states) {
                runs.add(List.of(s, s, d.isFinal(s) ? 1 : 0));
            }
            String second = roundFrom(d, "", runs, round, dead);
            return second == null ? null : new String[] {lead, second};
        }
        for (int letter = 0; letter < 4; letter++) {
            Set<Integer> next = new HashSet<>();
            for (Arc arc : d.arcs) {
                if (arc.read == letter && states.contains(arc.from)) {
                    next.add(arc.to);
                }
            }
            String[] found = next.isEmpty() ? null : loopFrom(d, lead + letter, next, left - 1, round, dead);
            if (found != null) {
                return found;
            }
        }
        dead.add(List.of(states, left, round));
        return null;
    }

    private static String roundFrom(Device d, String word, Set<List<Integer>> runs, int left, Set<Object> dead) {
        if (dead.contains(List.of(runs, left))) {
            return null;
        }
        if (left == 0) {
            for (List<Integer> run : runs) {
                if (run.get(0).equals(run.get(1)) && run.get(2) == 1) {
                    return word;
                }
            }
            return null;
        }
        for (int letter = 0; letter < 4; letter++) {
            Set<List<Integer>> next = new HashSet<>();
            for (List<Integer> run : runs) {
                for (Arc arc : d.arcs) {
                    if (arc.read == letter && arc.from == run.get(1)) {
                        next.add(List.of(run.get(0), arc.to, run.get(2) == 1 || d.isFinal(arc.to) ? 1 : 0));
                    }
                }
            }
            String found = next.isEmpty() ? null : roundFrom(d, word + letter, next, left - 1, dead);
            if (found != null) {
                return found;
            }
        }
        dead.add(List.of(runs, left));
        return null;
    }

    int breaks(int machine, int from, int to) {
        need(isDevice(machine) && isTongue(from) && isTongue(to), noIndex());
        return numberOrThrow(leastBroken(devices.get(machine), tongues.get(from), tongues.get(to)));
    }

    // ---- equations

    int domain(int variable, int language, int most) {
        need(in(variable, 0, 3), noIndex());
        need(isTongue(language) && in(most, 0, 2), noArgument());
        int before = mostOf[variable];
        domainOf[variable] = language;
        mostOf[variable] = most;
        solutionCount = -1;
        return before;
    }

    int equation() {
        need(equations.size() < 4, noState());
        equations.add(List.of(new ArrayList<>(), new ArrayList<>()));
        solutionCount = -1;
        return equations.size() - 1;
    }

    int symbol(int equation, int side, int symbol) {
        need(in(equation, 0, equations.size() - 1), noIndex());
        need(in(side, 0, 1) && (in(symbol, 0, 3) || in(symbol, 10, 13)), noArgument());
        List<Integer> row = equations.get(equation).get(side);
        need(row.size() < 6, noState());
        row.add(symbol);
        solutionCount = -1;
        return row.size();
    }

    int undo() {
        need(!equations.isEmpty(), noState());
        equations.remove(equations.size() - 1);
        solutionCount = -1;
        return equations.size();
    }

    private List<String> choices(int variable, int most) {
        List<String> words = new ArrayList<>();
        for (int word = 1; word < 2 << 2 * most; word++) {
            if (isWord(word) && tongues.get(domainOf[variable]).holds(spelled(word))) {
                words.add(spelled(word));
            }
        }
        return words;
    }

    private boolean solves(List<String> words) {
        for (List<List<Integer>> equation : equations) {
            if (!side(equation.get(0), words).equals(side(equation.get(1), words))) {
                return false;
            }
        }
        return true;
    }

    private static String side(List<Integer> symbols, List<String> words) {
        StringBuilder text = new StringBuilder();
        for (int symbol : symbols) {
            text.append(symbol < 4 ? "" + symbol : words.get(symbol - 10));
        }
        return text.toString();
    }

    private int count(int[] mosts) {
        int count = 0;
        int fewest = Integer.MAX_VALUE;
        firstSolution = null;
        for (String w : choices(0, mosts[0])) {
            for (String x : choices(1, mosts[1])) {
                for (String y : choices(2, mosts[2])) {
                    for (String z : choices(3, mosts[3])) {
                        if (solves(List.of(w, x, y, z))) {
                            count++;
                            int letters = w.length() + x.length() + y.length() + z.length();
                            if (letters < fewest) {
                                fewest = letters;
                                firstSolution = List.of(w, x, y, z);
                            }
                        }
                    }
                }
            }
        }
        return count;
    }

    int solutions() {
        if (solutionCount < 0) {
            solutionCount = count(mostOf);
        }
        return solutionCount;
    }

    int solved(int variable) {
        need(in(variable, 0, 3), noIndex());
        return solutions() == 0 ? 0 : number(firstSolution.get(variable));
    }

    int solutionsWith(int variable, int most) {
        need(in(variable, 0, 3), noIndex());
        need(in(most, 0, 2), noArgument());
        int[] mosts = mostOf.clone();
        mosts[variable] = most;
        int count = count(mosts);
        solutionCount = -1;
        return count;
    }

    // ---- schemas and documents

    int schema() {
        need(schemas.size() < 4, noState());
        schemas.add(new int[4]);
        return schemas.size() - 1;
    }

    private boolean isSchema(int schema) {
        return in(schema, 0, schemas.size() - 1);
    }

    int beneath(int schema, int letter, int language) {
        need(isSchema(schema) && in(letter, 0, 3), noIndex());
        need(isTongue(language), noArgument());
        int before = schemas.get(schema)[letter];
        schemas.get(schema)[letter] = language;
        return before;
    }

    int node(int parent, int letter) {
        need(in(parent, -1, nodes.size() - 1) && in(letter, 0, 3), noIndex());
        if (parent == -1) {
            nodes.clear();
        } else {
            need(nodes.size() < 30 && nodes.stream().filter(n -> n.parent == parent).count() < 10, noState());
        }
        nodes.add(new Node(parent, letter));
        return nodes.size() - 1;
    }

    private Tongue content(int schema, int letter) {
        return tongues.get(schemas.get(schema)[letter]);
    }

    int misfit(int schema) {
        need(isSchema(schema), noIndex());
        need(!nodes.isEmpty(), noState());
        for (int n = 0; n < nodes.size(); n++) {
            StringBuilder word = new StringBuilder();
            for (Node node : nodes) {
                if (node.parent == n) {
                    word.append(node.letter);
                }
            }
            if (!content(schema, nodes.get(n).letter).holds(word.toString())) {
                return n;
            }
        }
        return -1;
    }

    /** Settles the smallest one that is not settled, time after time; a WORD may have settled LETTERS alone. */
    private Map<Integer, Integer> sizes(int schema) {
        Map<Integer, Integer> settled = new HashMap<>();
        while (true) {
            int best = -1;
            int bestSize = Integer.MAX_VALUE;
            for (int letter = 0; letter < 4; letter++) {
                int size = settled.containsKey(letter) ? Integer.MAX_VALUE : size(content(schema, letter), settled);
                if (size < bestSize) {
                    best = letter;
                    bestSize = size;
                }
            }
            if (best < 0) {
                return settled;
            }
            settled.put(best, bestSize);
        }
    }

    private static int size(Tongue tongue, Map<Integer, Integer> settled) {
        Map<Integer, Integer> far = new HashMap<>(Map.of(0, 1));
        Set<Integer> done = new HashSet<>();
        while (true) {
            int near = -1;
            for (int state : far.keySet()) {
                if (!done.contains(state) && (near < 0 || far.get(state) < far.get(near))) {
                    near = state;
                }
            }
            if (near < 0) {
                return Integer.MAX_VALUE;
            }
            if (tongue.end(near)) {
                return far.get(near);
            }
            done.add(near);
            for (int letter : settled.keySet()) {
                far.merge(tongue.next(near, letter), far.get(near) + settled.get(letter), Math::min);
            }
        }
    }

    int least(int schema, int letter) {
        need(isSchema(schema) && in(letter, 0, 3), noIndex());
        return sizes(schema).getOrDefault(letter, -1);
    }

    int within(int one, int other) {
        need(isSchema(one) && isSchema(other), noIndex());
        Set<Integer> possible = sizes(one).keySet();
        Set<Integer> strays = new HashSet<>();
        for (int round = 0; round < 6; round++) {
            for (int letter : possible) {
                if (straying(content(one, letter), content(other, letter), possible, strays)) {
                    strays.add(letter);
                }
            }
        }
        return strays.isEmpty() ? -1 : new TreeSet<>(strays).first();
    }

    /** Whether there is a WORD of possible LETTERS in ours that is not in theirs, or has a LETTER that strays. */
    private static boolean straying(Tongue ours, Tongue theirs, Set<Integer> possible, Set<Integer> strays) {
        Set<List<Integer>> seen = new HashSet<>(Set.of(List.of(0, 0, 0)));
        List<List<Integer>> todo = new ArrayList<>(seen);
        for (int i = 0; i < todo.size(); i++) {
            List<Integer> at = todo.get(i);
            if (ours.end(at.get(0)) && (at.get(2) == 1 || !theirs.end(at.get(1)))) {
                return true;
            }
            for (int letter : possible) {
                int strayed = at.get(2) == 1 || strays.contains(letter) ? 1 : 0;
                List<Integer> next = List.of(ours.next(at.get(0), letter), theirs.next(at.get(1), letter), strayed);
                if (seen.add(next)) {
                    todo.add(next);
                }
            }
        }
        return false;
    }

    // ---- programs

    int step(int sort, int a, int b, int c) {
        boolean fits = switch (sort) {
            case 0, 6 -> in(a, 0, 2) && isTongue(b) && c == 0;
            case 1, 2 -> in(a, 0, 2) && in(b, 0, 2) && c == 0;
            case 3 -> in(a, 0, 2) && isDevice(b) && c == 0;
            case 4 -> in(a, 0, 2) && isTongue(b) && in(c, 0, 10);
            case 5 -> a == 0 && b == 0 && in(c, 0, 10);
            default -> false;
        };
        need(fits, noArgument());
        need(steps.size() < 10, noState());
        steps.add(new Step(sort, a, b, c));
        return steps.size() - 1;
    }

    int clear() {
        int before = steps.size();
        steps.clear();
        return before;
    }

    /** What is ahead of each place; a place that nothing came to is not there. */
    private final class Look {
        final Map<Integer, List<Tongue>> ahead = new HashMap<>();
        int rounds;
        boolean changed;

        Look() {
            if (steps.isEmpty()) {
                return;
            }
            ahead.put(0, List.of(BLANK, BLANK, BLANK));
            do {
                changed = false;
                rounds++;
                for (int s = 0; s < steps.size(); s++) {
                    if (ahead.containsKey(s)) {
                        go(s, steps.get(s), ahead.get(s));
                    }
                }
            } while (changed);
        }

        private void go(int s, Step step, List<Tongue> spans) {
            Tongue a = spans.get(step.a);
            switch (step.sort) {
                case 0 -> pass(s + 1, spans, step.a, tongues.get(step.b));
                case 1 -> pass(s + 1, spans, step.a, spans.get(step.b));
                case 2 -> pass(s + 1, spans, step.a, joined(a, spans.get(step.b)));
                case 3 -> pass(s + 1, spans, step.a, out(devices.get(step.b), a));
                case 4 -> {
                    pass(step.c, spans, step.a, combined(a, tongues.get(step.b), 6));
                    pass(s + 1, spans, step.a, combined(a, tongues.get(step.b), 7));
                }
                case 5 -> pass(step.c, spans, 0, spans.get(0));
                default -> pass(s + 1, spans, 0, spans.get(0));
            }
        }

        private void pass(int step, List<Tongue> spans, int string, Tongue tongue) {
            int place = step < steps.size() ? step : 10;
            List<Tongue> passed = new ArrayList<>(spans);
            passed.set(string, tongue == null ? ALL : tongue);
            if (passed.contains(NOTHING)) {
                return;
            }
            List<Tongue> before = ahead.get(place);
            if (before != null) {
                for (int i = 0; i < 3; i++) {
                    Tongue both = combined(before.get(i), passed.get(i), 5);
                    boolean wide = both == null || rounds >= 6 && !both.equals(before.get(i));
                    passed.set(i, wide ? ALL : both);
                }
            }
            if (!passed.equals(before)) {
                ahead.put(place, passed);
                changed = true;
            }
        }
    }

    int span(int step, int string, int what) {
        need(in(step, 0, 10) && in(string, 0, 2), noIndex());
        need(in(what, 0, 3), noArgument());
        return span(new Look(), step, string, what);
    }

    private int span(Look look, int step, int string, int what) {
        List<Tongue> spans = look.ahead.get(step < steps.size() ? step : 10);
        if (spans == null) {
            return 0;
        }
        return what == 0 ? 1 : fact(spans.get(string), what == 1 ? 0 : what);
    }

    int bad(int step) {
        need(in(step, 0, steps.size() - 1), noIndex());
        return bad(new Look(), step);
    }

    private int bad(Look look, int number) {
        Step step = steps.get(number);
        if (step.sort != 6 || !look.ahead.containsKey(number)) {
            return 0;
        }
        String word = leastBeyond(look.ahead.get(number).get(step.a), tongues.get(step.b));
        return word == null ? 0 : word.length() > 10 ? -1 : number(word);
    }

    int many(int what) {
        need(in(what, 0, 9), noArgument());
        return many(what >= 8 ? new Look() : null, what);
    }

    private int many(Look look, int what) {
        switch (what) {
            case 0:
                return tongues.size();
            case 1:
                return devices.size();
            case 2:
                return devices.stream().mapToInt(d -> d.arcs.size()).sum();
            case 3:
                return equations.size();
            case 4:
                return equations.stream().mapToInt(e -> e.get(0).size() + e.get(1).size()).sum();
            case 5:
                return schemas.size();
            case 6:
                return nodes.size();
            case 7:
                return steps.size();
            case 8:
                return look.rounds;
            default:
                int sum = 0;
                for (int s = 0; s < steps.size(); s++) {
                    sum += bad(look, s) != 0 ? 1 : 0;
                }
                return sum;
        }
    }

    double meanSize() {
        return tongues.stream().mapToInt(Tongue::size).average().getAsDouble();
    }

    long digest() {
        Look look = new Look();
        List<Long> all = new ArrayList<>();
        for (int what = 0; what <= 9; what++) {
            all.add((long) many(look, what));
        }
        for (int l = 0; l < tongues.size(); l++) {
            for (int what = 0; what <= 5; what++) {
                all.add((long) ofLanguage(l, what));
            }
            all.add((long) howMany(l, 2));
            all.add((long) howMany(l, 5));
            for (int s = 0; s < tongues.get(l).size(); s++) {
                for (int letter = 0; letter < 4; letter++) {
                    all.add((long) next(l, s, letter));
                }
            }
        }
        for (int m = 0; m < devices.size(); m++) {
            all.add((long) several(m, 2));
            all.add((long) loop(m, 0));
            all.add((long) loop(m, 1));
            for (int word : new int[] {1, 5, 22}) {
                all.add((long) writes(m, word, 0));
                all.add((long) writes(m, word, 1));
            }
        }
        for (int v = 0; v < 4; v++) {
            all.add((long) solved(v));
        }
        for (int s = 0; s < schemas.size(); s++) {
            for (int letter = 0; letter < 4; letter++) {
                all.add((long) least(s, letter));
            }
            if (!nodes.isEmpty()) {
                all.add((long) misfit(s));
            }
            for (int other = 0; other < schemas.size(); other++) {
                all.add((long) within(s, other));
            }
        }
        for (int step = 0; step <= 10; step++) {
            for (int string = 0; string < 3; string++) {
                for (int what = 0; what <= 3; what++) {
                    all.add((long) span(look, step, string, what));
                }
            }
        }
        for (int s = 0; s < steps.size(); s++) {
            all.add((long) bad(look, s));
        }
        long d = 58152;
        for (long v : all) {
            d = d * 31 + v;
        }
        return d;
    }
}
