import java.util.function.Supplier;
import java.util.function.ToIntFunction;

/** Counts the answers of a test that are as due, and tells the others. */
final class Checks {
    /** 25 words in ascending order, of 1 to 3 letters. */
    static final int[] WORDS = {1, 2, 3, 4, 11, 12, 13, 14, 21, 22, 23, 24, 31, 32, 33, 34, 41, 42, 43, 44,
        111, 112, 113, 114, 121};

    private static int passed = 0;
    private static int failed = 0;

    private Checks() {
    }

    static void same(String call, long got, long due) {
        if (got == due) {
            passed++;
        } else {
            failed++;
            System.out.println(call + " answered " + got + ", due is " + due);
        }
    }

    static void same(String call, float got, float due) {
        if (Float.compare(got, due) == 0) {
            passed++;
        } else {
            failed++;
            System.out.println(call + " answered " + got + ", due is " + due);
        }
    }

    static void holds(String what, boolean held) {
        same(what, held ? 1 : 0, 1);
    }

    static boolean allHeld() {
        return failed == 0;
    }

    /** Ends a test's main method: the exit code is 1 if an answer was wrong or nothing was checked. */
    static void end() {
        System.out.println(passed + " answers as due, " + failed + " not");
        if (failed > 0 || passed == 0) {
            System.exit(1);
        }
    }

    /** A matcher with the words of the codes; the word at index k has the weight k + 1. */
    static WordGroups withWords(int... codes) {
        WordGroups x = new WordGroups();
        for (int k = 0; k < codes.length; k++) {
            insert(x, codes[k], k + 1);
        }
        return x;
    }

    /** A matcher with so many of WORDS, 24 at most; the word at index k has the weight k. */
    static WordGroups withManyWords(int count) {
        WordGroups x = new WordGroups();
        for (int k = 0; k < count; k++) {
            insert(x, WORDS[k], k);
        }
        return x;
    }

    static int insert(WordGroups x, int code, int weight) {
        x.spell(code);
        return x.insert(weight);
    }

    static int remove(WordGroups x, int code) {
        x.spell(code);
        return x.remove();
    }

    static int weigh(WordGroups x, int code, int weight) {
        x.spell(code);
        return x.weigh(weight);
    }

    static void type(WordGroups x, int... codes) {
        for (int code : codes) {
            x.spell(code);
            x.type();
        }
    }

    /** The answers to everything that belongs to a state, as one text. */
    static String state(WordGroups x) {
        StringBuilder all = new StringBuilder();
        for (int what = 0; what <= 5; what++) {
            all.append(x.told(what)).append(' ');
        }
        for (int k = 0; k < x.told(0); k++) {
            all.append(x.word(k, 0)).append(':').append(x.word(k, 1)).append(' ');
        }
        for (int family = 0; family < 2; family++) {
            for (int group = 0; group < 7; group++) {
                all.append('|');
                for (int k = 0; k < x.group(family, group, 0); k++) {
                    all.append(x.item(family, group, k, 0)).append(':').append(x.item(family, group, k, 1)).append(' ');
                }
            }
        }
        return all.toString();
    }

    static void sameState(String when, WordGroups x, String due) {
        sameText(when + ": the state", state(x), due);
    }

    static void sameText(String when, String got, String due) {
        if (got.equals(due)) {
            passed++;
        } else {
            failed++;
            System.out.println(when + ": " + got + ", due is " + due);
        }
    }

    /** A call that is refused: it answers a code, and whatever can be asked is as if it had not been made. */
    static void refused(String named, Supplier<WordGroups> maker, ToIntFunction<WordGroups> call, int code) {
        same(named, call.applyAsInt(maker.get()), code);
        changesNothing(named, maker, call);
    }

    /** Compares objects made alike, with the call and without; each is used for less than 512 calls. */
    static void changesNothing(String named, Supplier<WordGroups> maker, ToIntFunction<WordGroups> call) {
        sameText("present after " + named, present(after(maker, call)), present(maker.get()));
        sameText("history after " + named, history(after(maker, call)), history(maker.get()));
        sameText("images after " + named, images(after(maker, call)), images(maker.get()));
    }

    private static WordGroups after(Supplier<WordGroups> maker, ToIntFunction<WordGroups> call) {
        WordGroups x = maker.get();
        call.applyAsInt(x);
        return x;
    }

    /** The state, the text and the pattern; the text is the pattern after this. */
    private static String present(WordGroups x) {
        StringBuilder all = new StringBuilder(state(x));
        all.append(" history ").append(x.told(8)).append(" text ").append(letters(x));
        x.clear();
        x.type();
        return all.append(" pattern ").append(letters(x)).toString();
    }

    static String letters(WordGroups x) {
        StringBuilder all = new StringBuilder();
        int length = x.told(7);
        for (int i = 0; i < length; i++) {
            all.append(x.at(i, 0));
        }
        return all.toString();
    }

    /** Undoes everything, and tells what is met. */
    private static String history(WordGroups x) {
        StringBuilder all = new StringBuilder();
        for (int left = x.undo(); left >= 0 && left < 9; left = x.undo()) {
            all.append(left).append(' ').append(brief(x)).append('|');
        }
        return all.toString();
    }

    private static String images(WordGroups x) {
        StringBuilder all = new StringBuilder();
        for (int i = 0; i < 2; i++) {
            int words = x.back(i);
            all.append(words).append(' ').append(words < 0 ? "" : brief(x)).append('|');
        }
        return all.toString();
    }

    private static String brief(WordGroups x) {
        StringBuilder all = new StringBuilder();
        for (int what = 0; what <= 5; what++) {
            all.append(x.told(what)).append(' ');
        }
        int words = x.told(0);
        for (int k = 0; k < words; k++) {
            all.append(x.word(k, 0)).append(' ');
        }
        return all.toString();
    }
}
