import java.util.ArrayList;
import java.util.List;

/** The numbers of which promise 35 makes the checksum, asked for one by one behind a story. */
final class Numbers {
    private final Fresh fresh;
    private final List<Long> all = new ArrayList<>();

    private Numbers(Story story) {
        fresh = story.fresh();
    }

    static List<Long> of(Story story) {
        Numbers numbers = new Numbers(story);
        numbers.askAmounts();
        numbers.askLanguages();
        numbers.askMachines();
        numbers.askSchemas();
        numbers.askProgram();
        return numbers.all;
    }

    private void ask(String call) {
        all.add((long) fresh.number(call));
    }

    private void askAmounts() {
        for (int what = 0; what <= 9; what++) {
            ask("many " + what);
        }
    }

    private void askLanguages() {
        int count = fresh.number("many 0");
        for (int l = 0; l < count; l++) {
            for (int what = 0; what <= 5; what++) {
                ask("ofLanguage " + l + " " + what);
            }
            ask("howMany " + l + " 2");
            ask("howMany " + l + " 5");
            int size = fresh.number("ofLanguage " + l + " 0");
            for (int i = 0; i < 4 * size; i++) {
                ask("next " + l + " " + i / 4 + " " + i % 4);
            }
        }
    }

    private void askMachines() {
        int count = fresh.number("many 1");
        for (int m = 0; m < count; m++) {
            ask("several " + m + " 2");
            ask("loop " + m + " 0");
            ask("loop " + m + " 1");
            for (int word : new int[] {1, 5, 22}) {
                ask("writes " + m + " " + word + " 0");
                ask("writes " + m + " " + word + " 1");
            }
        }
        for (int v = 0; v < 4; v++) {
            ask("solved " + v);
        }
    }

    private void askSchemas() {
        int count = fresh.number("many 5");
        boolean isNode = fresh.number("many 6") > 0;
        for (int s = 0; s < count; s++) {
            for (int letter = 0; letter < 4; letter++) {
                ask("least " + s + " " + letter);
            }
            if (isNode) {
                ask("misfit " + s);
            }
            for (int other = 0; other < count; other++) {
                ask("within " + s + " " + other);
            }
        }
    }

    private void askProgram() {
        for (int i = 0; i < 11 * 3 * 4; i++) {
            ask("span " + i / 12 + " " + i / 4 % 3 + " " + i % 4);
        }
        int count = fresh.number("many 7");
        for (int step = 0; step < count; step++) {
            ask("bad " + step);
        }
    }
}
