/** Promises 1 to 7: a new object, and LANGUAGES. */
public final class LanguagesTest {
    public static void main(String[] args) {
        WordWright x = new WordWright();
        Check.due(2, "many(0)", () -> x.many(0));
        Check.end("LanguagesTest");
    }
}
