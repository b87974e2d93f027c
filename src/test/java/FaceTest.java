import java.lang.reflect.Constructor;
import java.lang.reflect.Field;
import java.lang.reflect.Method;
import java.lang.reflect.Modifier;
import java.util.ArrayList;
import java.util.List;
import java.util.Set;
import java.util.TreeSet;

/** The face of the document, and what LANGUAGE.md says of the members beside it (its rules 1, 2 and 5). */
public final class FaceTest {
    private static final String INDEX = " IndexOutOfBoundsException";
    private static final String ARGUMENT = " IllegalArgumentException";
    private static final String STATE = " IllegalStateException";
    private static final String ARITHMETIC = " ArithmeticException";
    private static final String[] FACE = {
        "int make 3" + ARGUMENT + STATE, "int ofLanguage 2" + INDEX + ARGUMENT, "int next 3" + INDEX,
        "boolean has 2" + INDEX + ARGUMENT, "int howMany 2" + INDEX + ARGUMENT, "int beyond 2" + INDEX + ARITHMETIC,
        "int machine 0" + STATE, "int arc 5" + INDEX + ARGUMENT + STATE, "int finals 2" + INDEX + ARGUMENT,
        "int writes 3" + INDEX + ARGUMENT, "int several 2" + INDEX + ARGUMENT, "int loop 2" + INDEX + ARGUMENT,
        "int breaks 3" + INDEX + ARITHMETIC, "int domain 3" + INDEX + ARGUMENT, "int equation 0" + STATE,
        "int symbol 3" + INDEX + ARGUMENT + STATE, "int undo 0" + STATE, "int solved 1" + INDEX, "int solutions 0",
        "int schema 0" + STATE, "int beneath 3" + INDEX + ARGUMENT, "int node 2" + INDEX + STATE,
        "int misfit 1" + INDEX + STATE, "int least 2" + INDEX, "int within 2" + INDEX, "int step 4" + ARGUMENT + STATE,
        "int clear 0", "int span 3" + INDEX + ARGUMENT, "int bad 1" + INDEX, "int many 1" + ARGUMENT, "double meanSize 0",
        "int wouldSize 3" + ARGUMENT, "int solutionsWith 2" + INDEX + ARGUMENT, "long digest 0"};

    public static void main(String[] args) {
        Set<String> names = new TreeSet<>();
        Set<String> face = new TreeSet<>();
        for (Method m : WordWright.class.getDeclaredMethods()) {
            if (Modifier.isPublic(m.getModifiers())) {
                face.add(written(m));
                names.add(m.getName());
            }
        }
        Check.due(new TreeSet<>(List.of(FACE)).toString(), "the public methods", face::toString);
        Check.due(Modifier.PUBLIC | Modifier.FINAL, "the class", () -> WordWright.class.getModifiers());
        checkMembers(WordWright.class, names);
        Class<?>[] inside = WordWright.class.getDeclaredClasses();
        Check.isTrue(inside.length <= 12, "some twelve classes at most");
        for (Class<?> c : inside) {
            Check.isTrue((c.getModifiers() & (Modifier.PUBLIC | Modifier.PROTECTED)) == 0, c + " is private or package-visible");
            Check.isTrue(Modifier.isStatic(c.getModifiers()), c + " is static");
            checkMembers(c, names);
        }
        Check.end("FaceTest");
    }

    private static String written(Method m) {
        StringBuilder text = new StringBuilder().append(m.getReturnType()).append(' ').append(m.getName()).append(' ');
        text.append(m.getParameterCount());
        for (Class<?> e : m.getExceptionTypes()) {
            text.append(' ').append(e.getSimpleName());
        }
        return text.toString();
    }

    private static void checkMembers(Class<?> c, Set<String> face) {
        boolean isTop = c == WordWright.class;
        int fields = 0;
        for (Field f : c.getDeclaredFields()) {
            boolean isStatic = Modifier.isStatic(f.getModifiers());
            fields += isStatic ? 0 : 1;
            Check.isTrue(!isStatic || Modifier.isFinal(f.getModifiers()), f + ": a static field is final");
            Check.isTrue(!isTop || Modifier.isPrivate(f.getModifiers()), f + " is private");
        }
        Check.isTrue(fields <= 20, c + " has some twenty fields at most");
        for (Method m : c.getDeclaredMethods()) {
            boolean isFace = isTop && Modifier.isPublic(m.getModifiers());
            Check.isTrue(isFace || !face.contains(m.getName()), m + " has no name of a public one");
            Check.isTrue(!isTop || isFace || Modifier.isPrivate(m.getModifiers()), m + " is private");
            Check.isTrue(m.getParameterCount() <= 7, m + " takes at most seven parameters");
        }
        List<Constructor<?>> shown = new ArrayList<>();
        for (Constructor<?> made : c.getDeclaredConstructors()) {
            if (Modifier.isPublic(made.getModifiers())) {
                shown.add(made);
            }
        }
        Check.due(isTop ? 1 : 0, c + ": public constructors", shown::size);
    }
}
