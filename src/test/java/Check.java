import java.util.Objects;

/** What the tests have in common: they tell what is due, and end with 1 if something was not so. */
final class Check {
    private static int wrong = 0;
    private static int right = 0;

    private Check() {
    }

    /** A call; it may throw. */
    interface Call {
        Object go();
    }

    /** The call answers that. */
    static void due(Object want, String what, Call call) {
        Object got = answer(call);
        if (Objects.equals(normal(want), got)) {
            right++;
        } else {
            wrong++;
            System.out.println(what + " answered " + got + ", due is " + normal(want));
        }
    }

    /** The call throws just that, no class below it (as the machine would), and changes nothing. */
    static void refused(WordWright x, Class<? extends RuntimeException> want, String what, Call call) {
        long before = x.digest();
        due("throws " + want.getSimpleName(), what, call);
        due(before, "digest() after " + what, x::digest);
    }

    /** A call that is written out (as for Calls) answers that. */
    static void due(WordWright x, Object want, String call) {
        due(want, call, () -> Calls.answer(x, call));
    }

    /** Each of the calls throws just that behind the story, and then all is as it is without that call. */
    static void refused(Story story, Class<? extends RuntimeException> want, String... calls) {
        for (String call : calls) {
            String thrown = "throws " + want.getSimpleName();
            due(thrown, call + ", " + story, () -> Calls.answer(story.told(), call));
            due(story.untouched(), "what can be found out after " + call + ", " + story, () -> Probe.of(() -> {
                WordWright x = story.told();
                Calls.answer(x, call);
                return x;
            }));
        }
    }

    /** None of the calls throws behind the story. */
    static void allowed(Story story, String... calls) {
        for (String call : calls) {
            String answer = String.valueOf(Calls.answer(story.told(), call));
            isTrue(!answer.startsWith("throws"), call + ", " + story + ", is allowed, but " + answer);
        }
    }

    static Object answer(Call call) {
        try {
            return normal(call.go());
        } catch (RuntimeException e) {
            return "throws " + e.getClass().getSimpleName();
        }
    }

    static void isTrue(boolean holds, String what) {
        due(true, what, () -> holds);
    }

    private static Object normal(Object value) {
        return value instanceof Integer ? (Object) ((Integer) value).longValue() : value;
    }

    /** The number of a WORD that is written out. */
    static int word(String letters) {
        int number = 1;
        for (char c : letters.toCharArray()) {
            number = 4 * number + (c - '0');
        }
        return number;
    }

    /** All WORDS up to a length, in order, written out. */
    static String[] words(int longest) {
        String[] all = new String[((4 << 2 * longest) - 1) / 3];
        all[0] = "";
        for (int i = 1; i < all.length; i++) {
            all[i] = all[(i - 1) / 4] + (i - 1) % 4;
        }
        return all;
    }

    /** The LANGUAGE of one WORD, which has a LETTER at least; the LANGUAGES 2 to 5 are the LETTERS. */
    static int single(WordWright x, String letters) {
        int language = 2 + letters.charAt(0) - '0';
        for (int i = 1; i < letters.length(); i++) {
            language = x.make(4, language, 2 + letters.charAt(i) - '0');
        }
        return language;
    }

    /** A new object whose LANGUAGES 2 to 5 are the LETTERS. */
    static WordWright lettered() {
        WordWright x = new WordWright();
        for (int letter = 0; letter < 4; letter++) {
            x.make(2, letter, 0);
        }
        return x;
    }

    /** Ends the test. */
    static void end(String name) {
        System.out.println(name + ": " + right + " right, " + wrong + " wrong");
        if (wrong > 0) {
            System.exit(1);
        }
    }
}
