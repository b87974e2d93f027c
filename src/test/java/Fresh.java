import java.util.function.Supplier;

/**
 * Gives an object for calls that change nothing. Nothing is promised about an object after its 512th call: so there comes
 * a new one, made in the same way, when there would be more.
 */
final class Fresh {
    private static final int MOST_CALLS = 512;

    private final Supplier<WordWright> maker;
    private final int callsOfMaker;
    private WordWright x;
    private int calls;

    Fresh(Supplier<WordWright> maker, int callsOfMaker) {
        this.maker = maker;
        this.callsOfMaker = callsOfMaker;
    }

    /** An object for so many calls more. */
    WordWright forCalls(int more) {
        if (x == null || calls + more > MOST_CALLS) {
            x = maker.get();
            calls = callsOfMaker;
        }
        calls += more;
        return x;
    }

    /** What a call that is written out answers. */
    Object answer(String call) {
        return Calls.answer(forCalls(Calls.count(call)), call);
    }

    int number(String call) {
        Object answer = answer(call);
        if (!(answer instanceof Long)) {
            throw new IllegalStateException(call + " " + answer);
        }
        return ((Long) answer).intValue();
    }
}
