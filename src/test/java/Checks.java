/** Counts the answers of a test that are as due, and tells the others. */
final class Checks {
    private static int passed = 0;
    private static int failed = 0;

    private Checks() {
    }

    static void same(String call, long got, long due) {
        if (got == due) {
            passed++;
        } else {
            failed++;
            System.out.println(call + " answered " + got + ", due is " + due);
        }
    }

    static void same(String call, float got, float due) {
        if (Float.compare(got, due) == 0) {
            passed++;
        } else {
            failed++;
            System.out.println(call + " answered " + got + ", due is " + due);
        }
    }

    static void holds(String what, boolean held) {
        same(what, held ? 1 : 0, 1);
    }

    static boolean allHeld() {
        return failed == 0;
    }

    /** Ends a test's main method: the exit code is 1 if an answer was wrong or nothing was checked. */
    static void end() {
        System.out.println(passed + " answers as due, " + failed + " not");
        if (failed > 0 || passed == 0) {
            System.exit(1);
        }
    }

    /** A matcher with the words of the codes; the word at index k has the weight k + 1. */
    static WordGroups withWords(int... codes) {
        WordGroups x = new WordGroups();
        for (int k = 0; k < codes.length; k++) {
            insert(x, codes[k], k + 1);
        }
        return x;
    }

    static int insert(WordGroups x, int code, int weight) {
        x.spell(code);
        return x.insert(weight);
    }

    static int remove(WordGroups x, int code) {
        x.spell(code);
        return x.remove();
    }

    static int weigh(WordGroups x, int code, int weight) {
        x.spell(code);
        return x.weigh(weight);
    }

    static void type(WordGroups x, int... codes) {
        for (int code : codes) {
            x.spell(code);
            x.type();
        }
    }

    /** The answers to everything that belongs to a state, as one text. */
    static String state(WordGroups x) {
        StringBuilder all = new StringBuilder();
        for (int what = 0; what <= 5; what++) {
            all.append(x.told(what)).append(' ');
        }
        for (int k = 0; k < x.told(0); k++) {
            all.append(x.word(k, 0)).append(':').append(x.word(k, 1)).append(' ');
        }
        for (int family = 0; family < 2; family++) {
            for (int group = 0; group < 7; group++) {
                all.append('|');
                for (int k = 0; k < x.group(family, group, 0); k++) {
                    all.append(x.item(family, group, k, 0)).append(':').append(x.item(family, group, k, 1)).append(' ');
                }
            }
        }
        return all.toString();
    }

    static void sameState(String when, WordGroups x, String due) {
        String got = state(x);
        if (got.equals(due)) {
            passed++;
        } else {
            failed++;
            System.out.println(when + ": the state is " + got + ", due is " + due);
        }
    }
}
