/** Promises 17 to 20: what is told of the text. */
final class TextAnswersTest {
    public static void main(String[] args) {
        at();
        atRefused();
        total();
        totalWithoutMatches();
        heaviestPosition();
        divisions();
        fullText();
        findPattern();
        findMatches();
        findRefused();
        mean();
        Checks.end();
    }

    /** The words 2 (weight 5), 12 (-3), 412 (7) and 33 (0), and the text of the letters 3 0 1 1 2 2 2 3. */
    private static WordGroups example() {
        WordGroups x = new WordGroups();
        Checks.insert(x, 2, 5);
        Checks.insert(x, 12, -3);
        Checks.insert(x, 412, 7);
        Checks.insert(x, 33, 0);
        Checks.type(x, 4122, 3334);
        return x;
    }

    private static void at() {
        WordGroups x = example();
        int[][] due = {
            {3, 0, 1, 1, 2, 2, 2, 3},
            {0, 0, 3, 1, 0, 1, 1, 0},
            {0, 0, 9, 5, 0, 0, 0, 0},
            {-9999, -9999, 412, 2, -9999, 33, 33, -9999},
            {1, 1, 1, 1, 1, 1, 1, 0}
        };
        for (int what = 0; what <= 4; what++) {
            for (int i = 0; i < 8; i++) {
                Checks.same("at(" + i + ", " + what + ")", x.at(i, what), due[what][i]);
            }
        }
        Checks.remove(x, 412);
        Checks.same("at(0, 4) after a removal", x.at(0, 4), 0);
        Checks.same("at(1, 4) after a removal", x.at(1, 4), 1);
        Checks.same("at(2, 1) after a removal", x.at(2, 1), 2);
        Checks.same("at(2, 2) after a removal", x.at(2, 2), 2);
        Checks.same("at(2, 3) after a removal", x.at(2, 3), 12);
        WordGroups y = Checks.withWords(123412);
        Checks.type(y, 3, 123412, 3);
        for (int i = 0; i < 8; i++) {
            Checks.same("at(" + i + ", 4) of a longest word", y.at(i, 4), i >= 1 && i <= 6 ? 1 : 0);
            Checks.same("at(" + i + ", 3) of a longest word", y.at(i, 3), i == 6 ? 123412 : WordGroups.NONE);
        }
    }

    private static void atRefused() {
        WordGroups x = new WordGroups();
        Checks.same("at(0, 0) without a text", x.at(0, 0), WordGroups.BAD);
        x = example();
        for (int what = 0; what <= 4; what++) {
            Checks.same("at(-1, " + what + ")", x.at(-1, what), WordGroups.BAD);
            Checks.same("at(8, " + what + ")", x.at(8, what), WordGroups.BAD);
            Checks.same("at(highest, " + what + ")", x.at(Integer.MAX_VALUE, what), WordGroups.BAD);
            Checks.same("at(lowest, " + what + ")", x.at(Integer.MIN_VALUE, what), WordGroups.BAD);
        }
        Checks.same("at(0, -1)", x.at(0, -1), WordGroups.BAD);
        Checks.same("at(0, 5)", x.at(0, 5), WordGroups.BAD);
    }

    private static void total() {
        WordGroups x = example();
        int[] due = {6, 14, 7, 2, 12, 2};
        for (int what = 0; what <= 5; what++) {
            Checks.same("total(" + what + ")", x.total(what), due[what]);
        }
        Checks.remove(x, 2);
        int[] left = {4, 4, 6, 2, 7, 1};
        for (int what = 0; what <= 5; what++) {
            Checks.same("total(" + what + ") after a removal", x.total(what), left[what]);
        }
        for (int what : new int[] {-1, 6, Integer.MIN_VALUE, Integer.MAX_VALUE}) {
            Checks.same("total(" + what + ")", x.total(what), WordGroups.BAD);
        }
    }

    private static void totalWithoutMatches() {
        int[] due = {0, 0, 0, WordGroups.NONE, 0, 0};
        WordGroups x = Checks.withWords(1);
        for (int what = 0; what <= 5; what++) {
            Checks.same("total(" + what + ") without a text", x.total(what), due[what]);
        }
        Checks.type(x, 2222);
        due[3] = 0;
        for (int what = 0; what <= 5; what++) {
            Checks.same("total(" + what + ") without matches", x.total(what), due[what]);
        }
    }

    private static void heaviestPosition() {
        WordGroups x = new WordGroups();
        Checks.insert(x, 1, -2);
        Checks.insert(x, 2, -1);
        Checks.type(x, 11, 1);
        Checks.same("all are equal", x.total(3), 0);
        Checks.type(x, 22);
        Checks.same("the greatest is below 0", x.total(3), 3);
        Checks.type(x, 33);
        Checks.same("no match is heavier", x.total(3), 5);
        Checks.weigh(x, 2, 3);
        Checks.same("the lowest of several", x.total(3), 3);
    }

    private static void divisions() {
        WordGroups x = new WordGroups();
        Checks.insert(x, 1, 2);
        Checks.insert(x, 11, 4);
        Checks.type(x, 111);
        Checks.same("weight", x.total(4), 6);
        Checks.same("fewest of equal weight", x.total(5), 2);
        Checks.weigh(x, 11, 3);
        Checks.same("weight", x.total(4), 6);
        Checks.same("single letters alone", x.total(5), 3);
        Checks.weigh(x, 11, 5);
        Checks.same("weight", x.total(4), 7);
        Checks.same("matches", x.total(5), 2);

        WordGroups y = new WordGroups();
        Checks.insert(y, 12, 9);
        Checks.insert(y, 23, 10);
        Checks.insert(y, 34, 9);
        Checks.type(y, 1234);
        Checks.same("two that do not overlap", y.total(4), 18);
        Checks.same("two that do not overlap", y.total(5), 2);
        Checks.weigh(y, 23, 19);
        Checks.same("one heavy in the middle", y.total(4), 19);
        Checks.same("one heavy in the middle", y.total(5), 1);
        Checks.weigh(y, 23, 18);
        Checks.same("equal weights", y.total(4), 18);
        Checks.same("equal weights, fewer matches", y.total(5), 1);

        WordGroups z = new WordGroups();
        Checks.insert(z, 1, -4);
        Checks.insert(z, 2, 0);
        Checks.type(z, 1212);
        Checks.same("nothing is worth a match", z.total(4), 0);
        Checks.same("a weight of 0 is left out", z.total(5), 0);

        WordGroups w = new WordGroups();
        Checks.insert(w, 123412, 5);
        Checks.type(w, 3, 123412, 123412);
        Checks.same("matches, not asked for the weight before", w.total(5), 2);
        Checks.same("weight of longest words", w.total(4), 10);
        w.clear();
        Checks.same("matches without a text", w.total(5), 0);
    }

    private static void fullText() {
        WordGroups x = new WordGroups();
        int code = 1;
        for (int count = 1; count <= 6; count++) {
            Checks.insert(x, code, 99);
            code = code * 10 + 1;
        }
        for (int k = 0; k < 10; k++) {
            Checks.type(x, 111111);
        }
        int matches = 60 + 59 + 58 + 57 + 56 + 55;
        int[] due = {matches, 99 * matches, 60, 5, 99 * 60, 60};
        for (int what = 0; what <= 5; what++) {
            Checks.same("total(" + what + ") of a full text", x.total(what), due[what]);
        }
        Checks.same("at(59, 1)", x.at(59, 1), 6);
        Checks.same("at(59, 3)", x.at(59, 3), 111111);
        Checks.same("at(4, 3)", x.at(4, 3), 11111);
        Checks.same("find(59, 1)", x.find(59, 1), 59);
        Checks.same("mean()", x.mean(), 99.0f);
    }

    private static void findPattern() {
        WordGroups x = Checks.withWords(4);
        Checks.type(x, 1111, 21, 11);
        x.spell(11);
        int[] due = {1, 2, 3, 6, 7, WordGroups.NONE};
        for (int k = 0; k < due.length; k++) {
            Checks.same("find(" + k + ", 0)", x.find(k, 0), due[k]);
        }
        Checks.same("find(highest, 0)", x.find(Integer.MAX_VALUE, 0), WordGroups.NONE);
        x.insert(1);
        Checks.same("find(3, 0) of a live word", x.find(3, 0), 6);
        x.spell(33);
        Checks.same("find(0, 0) of what does not occur", x.find(0, 0), WordGroups.NONE);
        x.clear();
        x.spell(11);
        Checks.same("find(0, 0) without a text", x.find(0, 0), WordGroups.NONE);
        Checks.type(x, 1);
        x.spell(11);
        Checks.same("find(0, 0) of more letters than the text", x.find(0, 0), WordGroups.NONE);
    }

    private static void findMatches() {
        WordGroups x = example();
        int[] due = {2, 3, 5, 6, WordGroups.NONE};
        x.wipe();
        for (int k = 0; k < due.length; k++) {
            Checks.same("find(" + k + ", 1)", x.find(k, 1), due[k]);
        }
        x.spell(4);
        Checks.same("find(0, 1) beside a pattern", x.find(0, 1), 2);
    }

    private static void findRefused() {
        WordGroups x = example();
        Checks.same("find(-1, 0)", x.find(-1, 0), WordGroups.BAD);
        Checks.same("find(-1, 1)", x.find(-1, 1), WordGroups.BAD);
        Checks.same("find(0, -1)", x.find(0, -1), WordGroups.BAD);
        Checks.same("find(0, 2)", x.find(0, 2), WordGroups.BAD);
        x.wipe();
        Checks.same("find(0, 0) of nothing", x.find(0, 0), WordGroups.STATE);
        Checks.same("find(99, 0) of nothing", x.find(99, 0), WordGroups.STATE);
        Checks.same("find(-1, 0) of nothing", x.find(-1, 0), WordGroups.BAD);
        Checks.same("find(0, 2) of nothing", x.find(0, 2), WordGroups.BAD);
    }

    private static void mean() {
        WordGroups x = new WordGroups();
        Checks.same("mean() without a text", x.mean(), 0.0f);
        Checks.type(x, 1112);
        Checks.same("mean() without matches", x.mean(), 0.0f);
        Checks.insert(x, 1, 4);
        Checks.same("mean()", x.mean(), 4.0f);
        Checks.insert(x, 2, -5);
        Checks.same("mean() of parts", x.mean(), 1.75f);
        Checks.remove(x, 2);
        Checks.insert(x, 11, -1);
        Checks.insert(x, 12, 0);
        Checks.same("mean() in float", x.mean(), 10.0f / 6.0f);
        Checks.weigh(x, 1, 0);
        Checks.weigh(x, 11, 0);
        Checks.same("mean() of weights of 0", x.mean(), 0.0f);
        Checks.weigh(x, 11, -1);
        Checks.same("mean() below 0", x.mean(), -2.0f / 6.0f);
    }
}
