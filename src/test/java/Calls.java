import java.lang.reflect.InvocationTargetException;
import java.lang.reflect.Method;
import java.util.Arrays;
import java.util.HashMap;
import java.util.Map;

/**
 * Calls of the face that are written out, as "make 4 LANGUAGES-1 2", so that tests can hold them in tables. MIN and MAX
 * are the ends of the range of an int; LANGUAGES, MACHINES, EQUATIONS, SCHEMAS, NODES and STEPS are how many there are.
 */
final class Calls {
    private static final Map<String, Integer> AMOUNTS = Map.of("LANGUAGES", 0, "MACHINES", 1, "EQUATIONS", 3,
        "SCHEMAS", 5, "NODES", 6, "STEPS", 7);
    private static final Map<Class<?>, Map<String, Method>> FACES = new HashMap<>();

    private Calls() {
    }

    /** What the call answers, or what it throws. */
    static Object answer(WordWright x, String call) {
        return answer(x, call.split(" ")[0], arguments(x, call));
    }

    static int[] arguments(WordWright x, String call) {
        String[] words = call.split(" ");
        int[] args = new int[words.length - 1];
        for (int i = 0; i < args.length; i++) {
            args[i] = number(x, words[i + 1]);
        }
        return args;
    }

    /** How many calls it takes: one for each amount that stands in it, and itself. */
    static int count(String call) {
        int count = 1;
        for (String word : call.split(" ")) {
            count += AMOUNTS.containsKey(word.replace("-1", "")) ? 1 : 0;
        }
        return count;
    }

    /** The same for WordWright and for the Oracle. */
    static Object answer(Object x, String name, int... args) {
        Method method = faceOf(x.getClass()).get(name + args.length);
        if (method == null) {
            throw new IllegalStateException("the face has no " + name + " with " + args.length + " arguments");
        }
        Object[] boxed = Arrays.stream(args).boxed().toArray();
        return Check.answer(() -> {
            try {
                return method.invoke(x, boxed);
            } catch (InvocationTargetException e) {
                throw thrown(e);
            } catch (IllegalAccessException e) {
                throw new AssertionError(e);
            }
        });
    }

    private static RuntimeException thrown(InvocationTargetException e) {
        if (e.getCause() instanceof Error) {
            throw (Error) e.getCause();
        }
        return (RuntimeException) e.getCause();
    }

    private static int number(WordWright x, String word) {
        if (word.equals("MIN")) {
            return Integer.MIN_VALUE;
        }
        if (word.equals("MAX")) {
            return Integer.MAX_VALUE;
        }
        if (word.endsWith("-1") && word.length() > 2) {
            return number(x, word.substring(0, word.length() - 2)) - 1;
        }
        Integer what = AMOUNTS.get(word);
        return what == null ? Integer.parseInt(word) : x.many(what);
    }

    private static Map<String, Method> faceOf(Class<?> c) {
        return FACES.computeIfAbsent(c, key -> {
            Map<String, Method> face = new HashMap<>();
            for (Method m : c.getDeclaredMethods()) {
                boolean hasNumbers = Arrays.stream(m.getParameterTypes()).allMatch(p -> p == int.class);
                if (hasNumbers) {
                    face.put(m.getName() + m.getParameterCount(), m);
                }
            }
            return face;
        });
    }
}
