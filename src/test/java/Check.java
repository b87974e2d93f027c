import java.util.Objects;

/** What the tests have in common: they tell what is due, and end with 1 if something was not so. */
final class Check {
    private static int wrong = 0;
    private static int right = 0;

    private Check() {
    }

    /** A call; it may throw. */
    interface Call {
        Object go();
    }

    /** The call answers that. */
    static void due(Object want, String what, Call call) {
        Object got = answer(call);
        if (Objects.equals(normal(want), got)) {
            right++;
        } else {
            wrong++;
            System.out.println(what + " answered " + got + ", due is " + normal(want));
        }
    }

    /** The call throws just that. */
    static void thrown(Class<? extends RuntimeException> want, String what, Call call) {
        due("throws " + want.getSimpleName(), what, call);
    }

    static Object answer(Call call) {
        try {
            return normal(call.go());
        } catch (RuntimeException e) {
            // A class below the named one is one that the machine threw.
            return "throws " + e.getClass().getSimpleName();
        }
    }

    static void isTrue(boolean holds, String what) {
        due(true, what, () -> holds);
    }

    private static Object normal(Object value) {
        return value instanceof Integer ? (Object) ((Integer) value).longValue() : value;
    }

    /** Ends the test. */
    static void end(String name) {
        System.out.println(name + ": " + right + " right, " + wrong + " wrong");
        if (wrong > 0) {
            System.exit(1);
        }
    }
}
