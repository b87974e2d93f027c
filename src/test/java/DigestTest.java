/** Promise 35: the checksum is that of what all other calls answer. */
public final class DigestTest {
    private long d;

    public static void main(String[] args) {
        WordWright x = new WordWright();
        isAsAsked("a new one", x);
        for (int letter = 0; letter < 4; letter++) {
            x.make(2, letter, 0);
        }
        x.make(8, x.make(4, 2, 3), 0);
        x.make(7, 1, 7);
        isAsAsked("with LANGUAGES", x);
        x.machine();
        x.arc(0, 0, 0, 0, 1);
        x.arc(0, 0, 1, 1, -1);
        x.arc(0, 1, 1, 0, 0);
        x.arc(0, 1, 1, 0, 2);
        x.finals(0, 3);
        x.machine();
        isAsAsked("with MACHINES", x);
        x.equation();
        x.symbol(0, 0, 10);
        x.symbol(0, 1, 3);
        x.symbol(0, 1, 13);
        isAsAsked("with an EQUATION", x);
        x.schema();
        x.schema();
        x.beneath(0, 1, x.make(1, 0, 0));
        x.beneath(0, 2, x.make(8, 3, 0));
        x.beneath(1, 2, 1);
        isAsAsked("with SCHEMAS", x);
        x.node(-1, 2);
        x.node(0, 2);
        x.node(1, 3);
        isAsAsked("with a DOCUMENT", x);
        x.step(0, 0, 7, 0);
        x.step(3, 0, 0, 0);
        x.step(6, 0, 2, 0);
        x.step(4, 0, 7, 1);
        x.step(2, 1, 0, 0);
        isAsAsked("with a PROGRAM", x);
        x.domain(0, 0, 1);
        x.clear();
        isAsAsked("at the end", x);
        Check.end("DigestTest");
    }

    private static void isAsAsked(String when, WordWright x) {
        long due = new DigestTest().asked(x);
        Check.due(due, "digest() " + when, x::digest);
        Check.due(due, "digest() again " + when, x::digest);
    }

    private void mix(long v) {
        d = d * 31 + v;
    }

    private long asked(WordWright x) {
        d = 58152;
        for (int what = 0; what <= 9; what++) {
            mix(x.many(what));
        }
        for (int l = 0; l < x.many(0); l++) {
            for (int what = 0; what <= 5; what++) {
                mix(x.ofLanguage(l, what));
            }
            mix(x.howMany(l, 2));
            mix(x.howMany(l, 5));
            for (int s = 0; s < x.ofLanguage(l, 0); s++) {
                for (int letter = 0; letter < 4; letter++) {
                    mix(x.next(l, s, letter));
                }
            }
        }
        for (int m = 0; m < x.many(1); m++) {
            mix(x.several(m, 2));
            mix(x.loop(m, 0));
            mix(x.loop(m, 1));
            for (int word : new int[] {1, 5, 22}) {
                mix(x.writes(m, word, 0));
                mix(x.writes(m, word, 1));
            }
        }
        for (int v = 0; v < 4; v++) {
            mix(x.solved(v));
        }
        for (int s = 0; s < x.many(5); s++) {
            for (int letter = 0; letter < 4; letter++) {
                mix(x.least(s, letter));
            }
            if (x.many(6) > 0) {
                mix(x.misfit(s));
            }
            for (int other = 0; other < x.many(5); other++) {
                mix(x.within(s, other));
            }
        }
        for (int step = 0; step <= 10; step++) {
            for (int string = 0; string < 3; string++) {
                for (int what = 0; what <= 3; what++) {
                    mix(x.span(step, string, what));
                }
            }
        }
        for (int step = 0; step < x.many(7); step++) {
            mix(x.bad(step));
        }
        return d;
    }
}
