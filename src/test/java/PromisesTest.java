/**
 * Promises 1 to 22, one after the other: the first and the last value that is allowed and what is next to it,
 * the empty and the full. (That refused calls change nothing is in ConventionsTest.)
 */
final class PromisesTest {
    private static final int BAD = WordGroups.BAD, STATE = WordGroups.STATE, FULL = WordGroups.FULL;
    private static final int NONE = WordGroups.NONE;
    private static final int LOWEST = Integer.MIN_VALUE, HIGHEST = Integer.MAX_VALUE;

    public static void main(String[] args) {
        newObject();
        newObjectKeepsNothing();
        write();
        wipe();
        spell();
        type();
        clear();
        insert();
        insertEachGroup();
        remove();
        removeEachAnswer();
        weigh();
        weighRebuilding();
        rebuild();
        undo();
        told();
        toldAtMost();
        word();
        wordMatches();
        group();
        groupAtMost();
        groupAfterLarger();
        item();
        itemOrder();
        follow();
        followLongest();
        at();
        atLongest();
        atCovers();
        nothingBehindTheText();
        total();
        totalPosition();
        totalDivision();
        findPattern();
        findAny();
        mean();
        keep();
        back();
        Checks.end();
    }

    /** 1: "without words, with an empty pattern and an empty text". */
    private static void newObject() {
        WordGroups x = new WordGroups();
        for (int what = 0; what <= 9; what++) {
            Checks.same("told(" + what + ")", x.told(what), 0);
        }
        Checks.same("word(0, 0)", x.word(0, 0), NONE);
        for (int family = 0; family <= 1; family++) {
            for (int group = 0; group <= 6; group++) {
                for (int what = 0; what <= 4; what++) {
                    Checks.same("group(" + family + ", " + group + ", " + what + ")", x.group(family, group, what), 0);
                }
                Checks.same("item(" + family + ", " + group + ", 0, 0)", x.item(family, group, 0, 0), NONE);
                Checks.same("follow(" + family + ", " + group + ", 0)", x.follow(family, group, 0), NONE);
            }
        }
        int[] totals = {0, 0, 0, NONE, 0, 0};
        for (int what = 0; what < totals.length; what++) {
            Checks.same("total(" + what + ")", x.total(what), totals[what]);
        }
        Checks.same("at(0, 0)", x.at(0, 0), BAD);
        Checks.same("find(0, 0)", x.find(0, 0), STATE);
        Checks.same("find(0, 1)", x.find(0, 1), NONE);
        Checks.same("mean()", x.mean(), 0.0f);
        Checks.same("wipe()", x.wipe(), 0);
        Checks.same("clear()", x.clear(), 0);
        Checks.same("type()", x.type(), STATE);
        Checks.same("remove()", x.remove(), STATE);
    }

    /** 1: "the images keep nothing, and nothing can be undone". */
    private static void newObjectKeepsNothing() {
        WordGroups x = new WordGroups();
        Checks.same("back(0)", x.back(0), STATE);
        Checks.same("back(1)", x.back(1), STATE);
        Checks.same("undo()", x.undo(), STATE);
        WordGroups full = Checks.withManyWords(24);
        full.keep(0);
        full.keep(1);
        WordGroups y = new WordGroups();
        Checks.same("told(0) beside another object", y.told(0), 0);
        Checks.same("back(0) beside another object", y.back(0), STATE);
        Checks.same("undo() beside another object", y.undo(), STATE);
    }

    /** 2: "Returns the new length of the pattern; BAD if there is no such letter; FULL if it has 6 letters." */
    private static void write() {
        for (int letter = 0; letter <= 3; letter++) {
            WordGroups x = new WordGroups();
            for (int length = 1; length <= 6; length++) {
                Checks.same("write(" + letter + ") as letter " + length, x.write(letter), length);
            }
            Checks.same("write(" + letter + ") as letter 7", x.write(letter), FULL);
            Checks.same("write(-1) as letter 7", x.write(-1), BAD);
            x.insert(0);
            Checks.same("the word of six " + letter, x.word(0, 0), 111111 * (letter + 1));
        }
        WordGroups y = new WordGroups();
        Checks.same("write(-1)", y.write(-1), BAD);
        Checks.same("write(4)", y.write(4), BAD);
        y.spell(44444);
        Checks.same("write(0) to 5 letters", y.write(0), 6);
        Checks.same("write(0) to 6 letters", y.write(0), FULL);
    }

    /** 3: "Empties the pattern. Returns the length that it had." */
    private static void wipe() {
        int[] codes = {1, 44, 123, 4321, 11111, 444444};
        for (int length = 1; length <= 6; length++) {
            WordGroups x = new WordGroups();
            x.spell(codes[length - 1]);
            Checks.same("wipe() of " + length + " letters", x.wipe(), length);
            Checks.same("wipe() of none", x.wipe(), 0);
            Checks.same("told(6)", x.told(6), 0);
            Checks.same("insert(0) of none", x.insert(0), STATE);
        }
    }

    /** 4: "Returns the new length of the pattern; BAD if it is not the code of a word." */
    private static void spell() {
        WordGroups x = new WordGroups();
        int[] codes = {1, 4, 11, 14, 41, 44, 111, 444, 1111, 4444, 11111, 44444, 111111, 444444};
        int[] lengths = {1, 1, 2, 2, 2, 2, 3, 3, 4, 4, 5, 5, 6, 6};
        for (int k = codes.length - 1; k >= 0; k--) {
            Checks.same("spell(" + codes[k] + ")", x.spell(codes[k]), lengths[k]);
            Checks.same("told(6)", x.told(6), lengths[k]);
        }
        x.spell(231);
        int[] wrong = {0, 5, 9, 10, 15, 51, 45, 50, 100, 105, 110, 445, 454, 544, 1101, 111110, 444440, 444445, 444454,
            500000, 1111111, 4444444, 11111111, 1111111111, -1, -11, -444444, HIGHEST, LOWEST};
        for (int code : wrong) {
            Checks.same("spell(" + code + ")", x.spell(code), BAD);
            Checks.same("told(6) after it", x.told(6), 3);
        }
        x.type();
        Checks.sameText("the pattern that was replaced last", Checks.letters(x), "120");
    }

    /** 5: "STATE if the pattern is empty; FULL if the text would have more than 60 letters." */
    private static void type() {
        for (int last = 1; last <= 6; last++) {
            WordGroups x = new WordGroups();
            x.spell(123412);
            for (int k = 1; k <= 9; k++) {
                Checks.same("type() of 6 letters", x.type(), 6 * k);
            }
            int[] codes = {3, 33, 333, 3333, 33333, 333333};
            // 54 letters and 6 - last, then last of them, make 60.
            if (last < 6) {
                x.spell(codes[5 - last]);
                x.type();
                x.spell(codes[last]);
                Checks.same("type() to 61 letters", x.type(), FULL);
                Checks.same("told(7) after it", x.told(7), 60 - last);
            }
            x.spell(codes[last - 1]);
            Checks.same("type() to 60 letters", x.type(), 60);
            Checks.same("type() beyond 60 letters", x.type(), FULL);
            Checks.same("told(6), the pattern stays", x.told(6), last);
            x.wipe();
            Checks.same("type() of nothing to 60 letters", x.type(), STATE);
            Checks.same("told(7)", x.told(7), 60);
        }
    }

    /** 6: "Empties the text. Returns the length that it had." */
    private static void clear() {
        WordGroups x = Checks.withWords(1);
        Checks.same("clear() of none", x.clear(), 0);
        x.type();
        Checks.same("clear() of 1 letter", x.clear(), 1);
        x.spell(111111);
        for (int k = 0; k < 10; k++) {
            x.type();
        }
        Checks.same("total(0) before", x.total(0), 60);
        Checks.same("clear() of 60 letters", x.clear(), 60);
        Checks.same("told(7)", x.told(7), 0);
        Checks.same("total(0)", x.total(0), 0);
        Checks.same("total(3)", x.total(3), NONE);
        Checks.same("find(0, 0)", x.find(0, 0), NONE);
        Checks.same("at(0, 0)", x.at(0, 0), BAD);
        Checks.same("told(6), the pattern stays", x.told(6), 6);
        Checks.same("type() again", x.type(), 6);
    }

    /** 7: "BAD if weight is out of range; STATE if .. empty or is a live word; FULL if there are 24 live words." */
    private static void insert() {
        WordGroups x = new WordGroups();
        int[] allowed = {-99, -98, -1, 0, 1, 98, 99};
        for (int k = 0; k < allowed.length; k++) {
            Checks.holds("insert(" + allowed[k] + ")", Checks.insert(x, Checks.WORDS[k], allowed[k]) >= 0);
            Checks.same("its weight", x.word(k, 1), allowed[k]);
        }
        x.spell(44);
        for (int weight : new int[] {LOWEST, -1000, -101, -100, 100, 101, 1000, HIGHEST}) {
            Checks.same("insert(" + weight + ")", x.insert(weight), BAD);
        }
        Checks.same("told(0)", x.told(0), 7);

        WordGroups y = Checks.withManyWords(23);
        Checks.same("insert(0) of a live word beside 23", y.insert(0), STATE);
        Checks.same("insert(0) as word 24", Checks.insert(y, 444444, 0), 3);
        Checks.same("insert(0) as word 25", Checks.insert(y, 444443, 0), FULL);
        Checks.same("insert(0) of a live word beside 24", Checks.insert(y, 444444, 0), STATE);
        Checks.same("told(0)", y.told(0), 24);
    }

    /** 7: "Returns the number of the group into which it comes". */
    private static void insertEachGroup() {
        int[] groups = {0, 1, 0, 2, 0, 1, 0, 3, 0, 1, 0, 2, 0, 1, 0, 4, 0, 1, 0, 2, 0, 1, 0, 3};
        WordGroups x = new WordGroups();
        for (int k = 0; k < groups.length; k++) {
            Checks.same("insert(0) as item " + (k + 1), Checks.insert(x, Checks.WORDS[k], 0), groups[k]);
        }
        for (int k = 0; k < 7; k++) {
            Checks.weigh(x, Checks.WORDS[k], 1);
        }
        Checks.remove(x, 1);
        Checks.same("insert(0) as item 32", x.insert(0), 5);
        Checks.remove(x, 1);
        Checks.same("insert(0) as item 33", x.insert(0), 0);
    }

    /** 8: "STATE if the pattern is no live word". */
    private static void remove() {
        WordGroups x = Checks.withWords(12, 123, 2);
        for (int code : new int[] {1, 3, 11, 13, 21, 122, 124, 1231, 444444}) {
            Checks.same("remove() of " + code, Checks.remove(x, code), STATE);
        }
        x.wipe();
        Checks.same("remove() of nothing", x.remove(), STATE);
        Checks.same("remove() of 12", Checks.remove(x, 12), 0);
        Checks.same("remove() of 12 again", x.remove(), STATE);
        x.undo();
        Checks.same("remove() of 12 after undo()", x.remove(), 0);
        Checks.same("told(6), the pattern stays", x.told(6), 2);
    }

    /** 8: "the number of the group of the family 1 ..; or 10 + i ..; or 20 if .. there are no live words". */
    private static void removeEachAnswer() {
        WordGroups x = Checks.withManyWords(24);
        int[] groups = {0, 1, 0, 2, 0, 1, 0, 3, 0, 1, 0, 2};
        for (int k = 0; k < groups.length; k++) {
            Checks.same("remove() as removal " + (k + 1), Checks.remove(x, Checks.WORDS[k]), groups[k]);
        }
        Checks.same("remove() of 13: 11 live words", Checks.remove(x, Checks.WORDS[12]), 14);
        int[] then = {0, 1, 0, 2, 0, 13, 0, 1, 11, 0, 20};
        for (int k = 0; k < then.length; k++) {
            int left = 10 - k;
            Checks.same("remove() with " + left + " left", Checks.remove(x, Checks.WORDS[13 + k]), then[k]);
            Checks.same("told(0)", x.told(0), left);
        }

        WordGroups y = Checks.withManyWords(24);
        for (int k = 0; k < 15; k++) {
            Checks.weigh(y, Checks.WORDS[k], 0);
        }
        Checks.same("remove() as removal 16", Checks.remove(y, 1), 4);
        WordGroups z = Checks.withManyWords(24);
        for (int k = 0; k < 23; k++) {
            Checks.weigh(z, Checks.WORDS[k], 0);
        }
        Checks.same("remove() with 23 left", Checks.remove(z, 1), 15);
        WordGroups two = Checks.withWords(1, 2);
        Checks.same("remove() of one of two", two.remove(), 0);
        Checks.same("remove() of two of two", Checks.remove(two, 1), 20);
    }

    /** 9: "Returns 100 plus the previous weight; BAD if weight is out of range; STATE if .. no live word." */
    private static void weigh() {
        WordGroups x = Checks.withWords(1, 22, 333, 4444);
        int[] weights = {-99, 99, -99, 0, -1, 1, 99, 99};
        int previous = 4;
        for (int k = 0; k < weights.length; k++) {
            Checks.same("weigh(" + weights[k] + ")", x.weigh(weights[k]), 100 + previous);
            Checks.same("word(3, 1)", x.word(3, 1), weights[k]);
            previous = weights[k];
        }
        for (int weight : new int[] {LOWEST, -1000, -101, -100, 100, 101, 1000, HIGHEST}) {
            Checks.same("weigh(" + weight + ")", x.weigh(weight), BAD);
        }
        Checks.same("word(3, 1), as before", x.word(3, 1), 99);
        Checks.same("told(0)", x.told(0), 4);
        Checks.same("weigh(0) of a beginning", Checks.weigh(x, 444, 0), STATE);
        x.wipe();
        Checks.same("weigh(0) of nothing", x.weigh(0), STATE);
    }

    /** 9: "as by remove() (also if everything is rebuilt by this), and then inserts it .. This is one change." */
    private static void weighRebuilding() {
        WordGroups x = Checks.withWords(22);
        Checks.same("weigh(5) of the only word", x.weigh(5), 101);
        // 2 in, 2 out, nothing to rebuild, 2 in again.
        Checks.same("told(3)", x.told(3), 2 + 2 + 0 + 2);
        Checks.same("told(4)", x.told(4), 1);
        Checks.same("told(8)", x.told(8), 2);
        Checks.same("item(0, 0, 0, 1)", x.item(0, 0, 0, 1), 5);
        Checks.same("group(1, 0, 0)", x.group(1, 0, 0), 0);
        Checks.insert(x, 1, 7);
        Checks.same("weigh(8) of one of two, equality", x.weigh(8), 107);
        Checks.same("told(4), not rebuilt", x.told(4), 1);
        Checks.same("group(0, 0, 0)", x.group(0, 0, 0), 1);
        Checks.same("group(0, 1, 0)", x.group(0, 1, 0), 2);
        Checks.same("weigh(9) of one of two, 2 of 3 are more than half", x.weigh(9), 108);
        Checks.same("told(4), rebuilt", x.told(4), 2);
        // 22 is rebuilt into the group 0, and then 1 comes into the group 1 with it.
        Checks.same("group(0, 0, 0)", x.group(0, 0, 0), 0);
        Checks.same("group(0, 1, 0)", x.group(0, 1, 0), 2);
        Checks.same("told(2)", x.told(2), 0);
        x.undo();
        Checks.same("told(4) after undo()", x.told(4), 1);
        Checks.same("word(0, 1) after undo()", x.word(0, 1), 8);
    }

    /** 10: "Rebuilds everything, as described above. .. Returns the cost of this." */
    private static void rebuild() {
        WordGroups x = new WordGroups();
        Checks.same("rebuild() of nothing", x.rebuild(), 0);
        Checks.same("told(4)", x.told(4), 1);
        WordGroups y = new WordGroups();
        for (int k = 1; k <= 4; k++) {
            for (int n = 1; n <= 4; n++) {
                Checks.insert(y, 444400 + 10 * k + n, 0);
            }
            Checks.insert(y, 333330 + k, 0);
            Checks.insert(y, 222220 + k, 0);
        }
        Checks.same("rebuild() of 24 words of 6 letters", y.rebuild(), 144);
        Checks.same("rebuild() again", y.rebuild(), 144);
        Checks.same("told(4)", y.told(4), 2);
        Checks.same("group(0, 5, 0)", y.group(0, 5, 0), 24);
        Checks.same("undo()", y.undo(), 7);
        Checks.same("told(4) after undo()", y.told(4), 1);
    }

    /** 11: "Returns how many changes can still be undone; STATE if there is none." */
    private static void undo() {
        WordGroups x = new WordGroups();
        Checks.same("undo() of none", x.undo(), STATE);
        x.rebuild();
        Checks.same("undo() of one", x.undo(), 0);
        Checks.same("undo() of no more", x.undo(), STATE);
        for (int k = 0; k < 9; k++) {
            x.rebuild();
        }
        for (int left = 7; left >= 0; left--) {
            Checks.same("undo() of nine", x.undo(), left);
            Checks.same("told(8)", x.told(8), left);
            Checks.same("told(4)", x.told(4), left + 1);
        }
        Checks.same("the ninth undo() of nine", x.undo(), STATE);
        Checks.same("told(4)", x.told(4), 1);
    }

    /** 12: "Returns the number; BAD if what is out of range." */
    private static void told() {
        WordGroups x = Checks.withWords(1, 22, 333);
        Checks.remove(x, 22);
        Checks.type(x, 4444, 4444);
        x.wipe();
        x.write(1);
        int[] due = {2, 3, 1, (1 + 3 + 3) + 2, 0, 4, 1, 8, 4, 3};
        for (int what = 0; what <= 9; what++) {
            Checks.same("told(" + what + ")", x.told(what), due[what]);
        }
        for (int what : new int[] {LOWEST, -2, -1, 10, 11, HIGHEST}) {
            Checks.same("told(" + what + ")", x.told(what), BAD);
        }
    }

    /** 12: what is told where everything is at its most. */
    private static void toldAtMost() {
        WordGroups x = new WordGroups();
        for (int code : Checks.WORDS) {
            Checks.insert(x, code, -99);
        }
        Checks.same("told(5), the least", x.told(5), -99 * 24);
        for (int k = 0; k < 23; k++) {
            Checks.weigh(x, Checks.WORDS[k], 99);
        }
        x.spell(123412);
        for (int k = 0; k < 10; k++) {
            x.type();
        }
        int costs = costOfPutting(47) + costOfPutting(23);
        int[] due = {24, 47, 23, costs, 0, 99 * 23 - 99, 6, 60, 8, 9};
        for (int what = 0; what <= 9; what++) {
            Checks.same("told(" + what + ")", x.told(what), due[what]);
        }
        // 4 words of 1 letter, 16 of 2, 4 of 3.
        Checks.same("rebuild()", x.rebuild(), 4 + 16 * 2 + 4 * 3);
        Checks.weigh(x, 114, 99);
        Checks.same("told(5), the greatest", x.told(5), 99 * 24);
    }

    /** Without rebuilding, the item n comes into a group with those before it, as many as its lowest binary digit. */
    private static int costOfPutting(int items) {
        int cost = 0;
        for (int n = 1; n <= items; n++) {
            for (int k = n - Integer.lowestOneBit(n); k < n; k++) {
                cost += Integer.toString(Checks.WORDS[k % 24]).length();
            }
        }
        return cost;
    }

    /** 13: "Returns the number; NONE if there are not so many; BAD if k is negative or what is out of range." */
    private static void word() {
        for (int words : new int[] {0, 1, 2, 24}) {
            WordGroups x = Checks.withManyWords(words);
            for (int what = 0; what <= 2; what++) {
                Checks.same("word(" + words + ", " + what + ")", x.word(words, what), NONE);
                Checks.same("word(highest, " + what + ")", x.word(HIGHEST, what), NONE);
                Checks.same("word(-1, " + what + ")", x.word(-1, what), BAD);
                Checks.same("word(lowest, " + what + ")", x.word(LOWEST, what), BAD);
            }
            for (int k = 0; k <= words; k++) {
                Checks.same("word(" + k + ", -1)", x.word(k, -1), BAD);
                Checks.same("word(" + k + ", 3)", x.word(k, 3), BAD);
            }
            for (int k = 0; k < words; k++) {
                Checks.same("word(" + k + ", 0)", x.word(k, 0), Checks.WORDS[k]);
                Checks.same("word(" + k + ", 1)", x.word(k, 1), k);
                Checks.same("word(" + k + ", 2)", x.word(k, 2), 0);
            }
        }
    }

    /** 13: "the number of its matches in the text", at its ends and where they overlap. */
    private static void wordMatches() {
        WordGroups x = Checks.withWords(1, 11, 111111, 2, 121);
        Checks.type(x, 111111);
        int[] due = {6, 0, 5, 0, 1};
        for (int k = 0; k < due.length; k++) {
            Checks.same("word(" + k + ", 2)", x.word(k, 2), due[k]);
        }
        Checks.type(x, 12121);
        int[] then = {9, 2, 6, 2, 2};
        for (int k = 0; k < then.length; k++) {
            Checks.same("word(" + k + ", 2) of more letters", x.word(k, 2), then[k]);
        }
        x.clear();
        Checks.type(x, 11111);
        Checks.same("word(4, 2): the text is shorter than the word", x.word(4, 2), 0);
    }

    /** 14: "its nodes (0 if it is empty)"; "BAD if an argument is out of range". */
    private static void group() {
        WordGroups x = Checks.withWords(11, 1);
        Checks.remove(x, 11);
        int[] inserted = {2, 3, 3, 1, 3};
        int[] removed = {1, 3, 2, 1, 1};
        for (int what = 0; what <= 4; what++) {
            Checks.same("group(0, 1, " + what + ")", x.group(0, 1, what), inserted[what]);
            Checks.same("group(1, 0, " + what + ")", x.group(1, 0, what), removed[what]);
            Checks.same("group(0, 0, " + what + ") of an empty group", x.group(0, 0, what), 0);
            Checks.same("group(1, 6, " + what + ") of an empty group", x.group(1, 6, what), 0);
        }
        int[][] wrong = {{-1, 0, 0}, {2, 0, 0}, {0, -1, 0}, {0, 7, 0}, {0, 0, -1}, {0, 0, 5}, {1, 7, 4}, {1, -1, 4},
            {1, 0, 5}, {2, 7, 5}, {-1, -1, -1}};
        for (int[] c : wrong) {
            Checks.same("group(" + c[0] + ", " + c[1] + ", " + c[2] + ")", x.group(c[0], c[1], c[2]), BAD);
        }
    }

    /** 14: a full group of words of 6 letters, of which all nodes have the longest failure that there can be. */
    private static void groupAtMost() {
        WordGroups x = new WordGroups();
        for (int k = 1; k <= 4; k++) {
            Checks.insert(x, 111111 * k, 99);
        }
        int[] due = {4, 1 + 4 * 6, 24, 4 * (1 + 2 + 3 + 4 + 5), 4 * 99};
        for (int what = 0; what <= 4; what++) {
            Checks.same("group(0, 2, " + what + ")", x.group(0, 2, what), due[what]);
        }
        for (int k = 1; k <= 4; k++) {
            Checks.insert(x, k, 0);
        }
        int[] withLetters = {8, 25, 28, 60, 4 * 99};
        for (int what = 0; what <= 4; what++) {
            Checks.same("group(0, 3, " + what + ")", x.group(0, 3, what), withLetters[what]);
        }
        for (int k = 1; k <= 4; k++) {
            Checks.weigh(x, 111111 * k, -99);
        }
        for (int what = 0; what <= 4; what++) {
            Checks.same("group(0, 2, " + what + ")", x.group(0, 2, what), what == 4 ? -4 * 99 : due[what]);
            Checks.same("group(1, 2, " + what + ")", x.group(1, 2, what), due[what]);
        }
    }

    /** 14: of this group alone, also after a larger one was asked for. */
    private static void groupAfterLarger() {
        WordGroups x = Checks.withWords(1, 13, 3);
        Checks.same("group(0, 1, 3)", x.group(0, 1, 3), 0);
        Checks.same("group(0, 0, 3)", x.group(0, 0, 3), 0);
        Checks.same("group(0, 0, 1)", x.group(0, 0, 1), 2);
        WordGroups y = Checks.withWords(111111, 44, 1);
        Checks.same("group(0, 1, 3)", y.group(0, 1, 3), 15 + 1);
        Checks.same("group(0, 0, 3)", y.group(0, 0, 3), 0);
        Checks.same("group(0, 2, 3) of an empty group", y.group(0, 2, 3), 0);
        Checks.same("group(0, 2, 1) of an empty group", y.group(0, 2, 1), 0);
        y.type();
        Checks.same("follow(0, 0, 1)", y.follow(0, 0, 1), 1);
        Checks.type(y, 111, 4);
        Checks.same("follow(0, 0, 4)", y.follow(0, 0, 4), 1);
        Checks.same("follow(0, 1, 4)", y.follow(0, 1, 4), 1111);
        Checks.same("follow(0, 0, 5)", y.follow(0, 0, 5), 0);
    }

    /** 15: "NONE if the group has not so many items; BAD if k is negative or another argument is out of range". */
    private static void item() {
        int[] sizes = {1, 2, 4, 8, 16};
        for (int group = 0; group < sizes.length; group++) {
            WordGroups x = Checks.withManyWords(sizes[group]);
            int last = sizes[group] - 1;
            Checks.same("the first item", x.item(0, group, 0, 0), 1);
            Checks.same("the last item", x.item(0, group, last, 0), Checks.WORDS[last]);
            Checks.same("the last item's weight", x.item(0, group, last, 1), last);
            Checks.same("one more", x.item(0, group, last + 1, 0), NONE);
            Checks.same("one more, its weight", x.item(0, group, last + 1, 1), NONE);
            Checks.same("item highest", x.item(0, group, HIGHEST, 0), NONE);
            Checks.same("an item of an empty group", x.item(0, group + 1, 0, 0), NONE);
            Checks.same("an item of family 1", x.item(1, group, 0, 1), NONE);
            Checks.same("item -1", x.item(0, group, -1, 0), BAD);
            Checks.same("item lowest", x.item(0, group, LOWEST, 0), BAD);
        }
        WordGroups y = Checks.withWords(1, 2, 3);
        int[][] wrong = {{-1, 0, 0, 0}, {2, 0, 0, 0}, {0, -1, 0, 0}, {0, 7, 0, 0}, {0, 0, -1, 0}, {0, 0, 0, -1},
            {0, 0, 0, 2}, {1, 0, 0, 2}, {1, 0, -1, 0}, {1, 7, 0, 1}, {2, 7, -1, 2}};
        for (int[] c : wrong) {
            Checks.same("item(" + c[0] + ", " + c[1] + ", " + c[2] + ", " + c[3] + ")",
                y.item(c[0], c[1], c[2], c[3]), BAD);
        }
        Checks.same("item(0, 0, 0, 0)", y.item(0, 0, 0, 0), 3);
        Checks.same("item(0, 0, 1, 0), of the next group", y.item(0, 0, 1, 0), NONE);
        Checks.same("item(0, 1, 1, 0)", y.item(0, 1, 1, 0), 2);
        Checks.same("item(0, 1, 2, 0)", y.item(0, 1, 2, 0), NONE);
        Checks.same("item(0, 6, 0, 0)", y.item(0, 6, 0, 0), NONE);
    }

    /** 15: "in ascending order of the codes of the words; items with the same word in ascending order .. weights". */
    private static void itemOrder() {
        WordGroups x = Checks.withWords(4, 111111, 11, 3);
        Checks.weigh(x, 11, -1);
        Checks.weigh(x, 11, -99);
        Checks.weigh(x, 11, 99);
        Checks.insert(x, 12, 0);
        int[] codes = {3, 4, 11, 11, 11, 11, 12, 111111};
        int[] due = {4, 1, -99, -1, 3, 99, 0, 2};
        for (int k = 0; k < codes.length; k++) {
            Checks.same("item(0, 3, " + k + ", 0)", x.item(0, 3, k, 0), codes[k]);
            Checks.same("item(0, 3, " + k + ", 1)", x.item(0, 3, k, 1), due[k]);
        }
        Checks.same("item(1, 0, 0, 1)", x.item(1, 0, 0, 1), -99);
        Checks.same("item(1, 1, 0, 1)", x.item(1, 1, 0, 1), -1);
        Checks.same("item(1, 1, 1, 1)", x.item(1, 1, 1, 1), 3);
        // Two items that are alike in both are two all the same.
        WordGroups y = Checks.withWords(1, 22, 333, 4444);
        Checks.weigh(y, 1, 1);
        Checks.weigh(y, 1, 1);
        for (int k = 0; k < 2; k++) {
            Checks.same("item(0, 1, " + k + ", 0)", y.item(0, 1, k, 0), 1);
            Checks.same("item(1, 1, " + k + ", 1)", y.item(1, 1, k, 1), 1);
        }
        Checks.same("item(0, 1, 2, 0)", y.item(0, 1, 2, 0), NONE);
    }

    /** 16: "NONE if the group is empty, or the text has not so many letters; BAD if i is negative .." */
    private static void follow() {
        WordGroups x = Checks.withWords(123412, 2);
        Checks.remove(x, 2);
        Checks.same("follow(0, 1, 0) without a text", x.follow(0, 1, 0), 0);
        Checks.same("follow(0, 1, 1) without a text", x.follow(0, 1, 1), NONE);
        Checks.same("follow(0, 0, 0) of an empty group", x.follow(0, 0, 0), NONE);
        Checks.type(x, 3, 123412, 2);
        int[] due = {0, 0, 1, 12, 123, 1234, 12341, 123412, 2, NONE};
        int[] removed = {0, 0, 0, 2, 0, 0, 0, 2, 2, NONE};
        for (int i = 0; i < due.length; i++) {
            Checks.same("follow(0, 1, " + i + ")", x.follow(0, 1, i), due[i]);
            Checks.same("follow(1, 0, " + i + ")", x.follow(1, 0, i), removed[i]);
            Checks.same("follow(0, 0, " + i + ") of an empty group", x.follow(0, 0, i), NONE);
        }
        Checks.same("follow(0, 1, highest)", x.follow(0, 1, HIGHEST), NONE);
        int[][] wrong = {{0, 1, -1}, {0, 1, LOWEST}, {0, 0, -1}, {-1, 1, 0}, {2, 1, 0}, {0, -1, 0}, {0, 7, 0},
            {2, 7, -1}, {2, 0, 99}};
        for (int[] c : wrong) {
            Checks.same("follow(" + c[0] + ", " + c[1] + ", " + c[2] + ")", x.follow(c[0], c[1], c[2]), BAD);
        }
        WordGroups y = Checks.withWords(444444);
        for (int k = 0; k < 10; k++) {
            y.type();
        }
        Checks.same("follow(0, 0, 59)", y.follow(0, 0, 59), 444444);
        Checks.same("follow(0, 0, 60)", y.follow(0, 0, 60), 444444);
        Checks.same("follow(0, 0, 61)", y.follow(0, 0, 61), NONE);
    }

    /** 16: "(0 for the empty one): the longest end of these letters that is a node". */
    private static void followLongest() {
        WordGroups x = Checks.withWords(1212, 212, 2);
        Checks.insert(x, 41, 0);
        Checks.type(x, 1212, 12, 44, 12, 3);
        int[] due = {0, 1, 12, 121, 1212, 121, 1212, 4, 4, 41, 12, 0};
        for (int i = 0; i < due.length; i++) {
            Checks.same("follow(0, 2, " + i + ")", x.follow(0, 2, i), due[i]);
        }
    }

    /** 17: "Returns the number; BAD if there is no such position or what is out of range." */
    private static void at() {
        WordGroups x = new WordGroups();
        Checks.type(x, 1234);
        for (int what = 0; what <= 4; what++) {
            int first = what == 3 ? NONE : 0;
            Checks.same("at(0, " + what + ")", x.at(0, what), first);
            Checks.same("at(3, " + what + ")", x.at(3, what), what == 0 ? 3 : first);
            Checks.same("at(4, " + what + ")", x.at(4, what), BAD);
            Checks.same("at(-1, " + what + ")", x.at(-1, what), BAD);
            Checks.same("at(lowest, " + what + ")", x.at(LOWEST, what), BAD);
            Checks.same("at(highest, " + what + ")", x.at(HIGHEST, what), BAD);
        }
        for (int i = -1; i <= 4; i++) {
            Checks.same("at(" + i + ", -1)", x.at(i, -1), BAD);
            Checks.same("at(" + i + ", 5)", x.at(i, 5), BAD);
        }
        x.clear();
        Checks.same("at(0, 0) without a text", x.at(0, 0), BAD);
    }

    /** 17: "the code of the longest word of a match that ends there (NONE if there is none)". */
    private static void atLongest() {
        WordGroups x = Checks.withWords(4, 34, 234, 1234, 41234, 341234);
        Checks.type(x, 341234);
        Checks.same("at(5, 3)", x.at(5, 3), 341234);
        Checks.same("at(5, 1)", x.at(5, 1), 6);
        Checks.same("at(5, 2)", x.at(5, 2), 1 + 2 + 3 + 4 + 5 + 6);
        Checks.same("at(1, 3)", x.at(1, 3), 34);
        Checks.same("at(0, 3)", x.at(0, 3), NONE);
        Checks.remove(x, 341234);
        Checks.same("at(5, 3) after a removal", x.at(5, 3), 41234);
        Checks.remove(x, 34);
        Checks.same("at(1, 3) after a removal", x.at(1, 3), 4);
        Checks.same("at(5, 3), the longest stays", x.at(5, 3), 41234);
        // The longest one, not the one of the greatest weight.
        Checks.weigh(x, 41234, -99);
        Checks.same("at(5, 3) of a small weight", x.at(5, 3), 41234);
    }

    /** 17: "whether some match covers this letter (1 or 0)": its first letter, its last one, and those beside it. */
    private static void atCovers() {
        int[] codes = {3, 13, 143, 1443, 14443, 144443};
        for (int length = 1; length <= 6; length++) {
            WordGroups x = Checks.withWords(codes[length - 1]);
            Checks.type(x, 222, codes[length - 1], 222);
            for (int i = 0; i < 6 + length; i++) {
                Checks.same("at(" + i + ", 4) of " + length + " letters", x.at(i, 4), i >= 3 && i < 3 + length ? 1 : 0);
            }
            Checks.same("total(2)", x.total(2), length);
        }
        WordGroups y = Checks.withWords(123412, 4);
        y.clear();
        Checks.type(y, 123412, 12);
        int[] due = {1, 1, 1, 1, 1, 1, 0, 0};
        for (int i = 0; i < due.length; i++) {
            Checks.same("at(" + i + ", 4) under two matches", y.at(i, 4), due[i]);
        }
        Checks.same("total(2) under two matches", y.total(2), 6);
        Checks.type(y, 4);
        Checks.same("at(8, 4), the last letter", y.at(8, 4), 1);
        Checks.same("total(2) with the last letter", y.total(2), 7);
        Checks.remove(y, 123412);
        Checks.same("at(3, 4) under one match", y.at(3, 4), 1);
        Checks.same("at(2, 4) under none", y.at(2, 4), 0);
    }

    /** 17 to 19: no match ends behind the last letter, whatever letters were there before the text was emptied. */
    private static void nothingBehindTheText() {
        int[] codes = {21, 211, 211111, 24, 234, 234123};
        for (int code : codes) {
            for (boolean letters : new boolean[] {false, true}) {
                WordGroups x = Checks.withWords(code);
                if (letters) {
                    Checks.type(x, code, code);
                    Checks.same("at(0, 4) of " + code, x.at(0, 4), 1);
                    x.clear();
                }
                Checks.type(x, 2);
                Checks.same("at(0, 4) of the beginning of " + code, x.at(0, 4), 0);
                Checks.same("at(0, 1) of the beginning of " + code, x.at(0, 1), 0);
                for (int what = 0; what <= 5; what++) {
                    Checks.same("total(" + what + ") of the beginning of " + code, x.total(what), 0);
                }
                Checks.same("word(0, 2) of the beginning of " + code, x.word(0, 2), 0);
                Checks.same("find(0, 1) of the beginning of " + code, x.find(0, 1), NONE);
                x.spell(code);
                Checks.same("find(0, 0) of the beginning of " + code, x.find(0, 0), NONE);
            }
        }
    }

    /** 18: "Returns the number; BAD if what is out of range." */
    private static void total() {
        WordGroups x = Checks.withWords(1, 12);
        Checks.type(x, 121, 3);
        int[] due = {3, 4, 3, 1, 3, 2};
        for (int what = 0; what <= 5; what++) {
            Checks.same("total(" + what + ")", x.total(what), due[what]);
        }
        for (int what : new int[] {LOWEST, -2, -1, 6, 7, HIGHEST}) {
            Checks.same("total(" + what + ")", x.total(what), BAD);
        }
    }

    /** 18: "the position with the greatest weight (the lowest one of several; NONE if the text is empty)". */
    private static void totalPosition() {
        WordGroups x = new WordGroups();
        Checks.same("without a text", x.total(3), NONE);
        Checks.type(x, 4);
        Checks.same("one letter without a match", x.total(3), 0);
        Checks.insert(x, 4, -99);
        Checks.same("one letter of the least weight", x.total(3), 0);
        Checks.type(x, 4, 4, 3);
        Checks.same("a position without a match, its weight is 0", x.total(3), 3);
        Checks.type(x, 3);
        Checks.same("the lowest of two without a match", x.total(3), 3);
        Checks.insert(x, 33, 1);
        Checks.same("the last position", x.total(3), 4);
        Checks.weigh(x, 4, 1);
        Checks.same("the first position of several", x.total(3), 0);
        x.clear();
        Checks.same("without a text again", x.total(3), NONE);
        Checks.insert(x, 444444, 99);
        for (int k = 0; k < 9; k++) {
            Checks.type(x, 111111);
        }
        Checks.type(x, 444444);
        Checks.same("the position 59", x.total(3), 59);
    }

    /** 18: "the greatest weight of a division", "the least number of matches of a division with this weight". */
    private static void totalDivision() {
        WordGroups x = new WordGroups();
        Checks.insert(x, 1, 1);
        Checks.insert(x, 11, 2);
        Checks.insert(x, 111, 3);
        Checks.insert(x, 111111, 6);
        Checks.type(x, 111111, 11111);
        // 11 letters, of which each is worth 1: 6 + 3 + 2 letters are the fewest matches.
        Checks.same("total(4), all are equal", x.total(4), 11);
        Checks.same("total(5), all are equal", x.total(5), 3);
        Checks.type(x, 1);
        Checks.same("total(5), twice six letters", x.total(5), 2);
        Checks.weigh(x, 1, 2);
        Checks.same("total(4), single letters are the heaviest", x.total(4), 24);
        Checks.same("total(5), single letters are the heaviest", x.total(5), 12);
        WordGroups y = Checks.withWords(1);
        y.weigh(99);
        for (int k = 0; k < 10; k++) {
            Checks.type(y, 111111);
        }
        Checks.same("total(4), the greatest that there is", y.total(4), 99 * 60);
        Checks.same("total(5), the most that there are", y.total(5), 60);
        // Worse at first, better in the end: 12 and 34 beside 1 and 234.
        WordGroups z = new WordGroups();
        Checks.insert(z, 1, 10);
        Checks.insert(z, 12, 5);
        Checks.insert(z, 34, 20);
        Checks.insert(z, 234, 14);
        Checks.type(z, 1234);
        Checks.same("total(4), a letter left out between", z.total(4), 30);
        Checks.same("total(5), a letter left out between", z.total(5), 2);
        Checks.weigh(z, 234, 20);
        Checks.weigh(z, 12, 10);
        Checks.same("total(4) of three with two matches", z.total(4), 30);
        Checks.same("total(5) of three with two matches", z.total(5), 2);
    }

    /** 19: "0 for the pattern (whether it is a live word or not)", "NONE if there are not so many". */
    private static void findPattern() {
        WordGroups x = new WordGroups();
        for (int k = 0; k < 10; k++) {
            Checks.type(x, 111111);
        }
        for (int length = 1; length <= 6; length++) {
            x.spell(111111 / (int) Math.pow(10, 6 - length));
            Checks.same("the first end of " + length, x.find(0, 0), length - 1);
            Checks.same("the last end of " + length, x.find(60 - length, 0), 59);
            Checks.same("no more ends of " + length, x.find(61 - length, 0), NONE);
            Checks.same("find(highest, 0)", x.find(HIGHEST, 0), NONE);
            Checks.same("find(-1, 0)", x.find(-1, 0), BAD);
            Checks.same("find(lowest, 0)", x.find(LOWEST, 0), BAD);
        }
        Checks.same("find(0, 0) of a live word", Checks.insert(x, 1, 1) + x.find(0, 0), 0);
        Checks.same("find(0, -1)", x.find(0, -1), BAD);
        Checks.same("find(0, 2)", x.find(0, 2), BAD);
        x.wipe();
        Checks.same("find(0, 0) of nothing", x.find(0, 0), STATE);
        Checks.same("find(60, 0) of nothing", x.find(60, 0), STATE);
        Checks.same("find(60, 2) of nothing", x.find(60, 2), BAD);
    }

    /** 19: "1 for positions at which any match ends": each position once, whatever the pattern is. */
    private static void findAny() {
        WordGroups x = Checks.withWords(1, 11, 111);
        Checks.type(x, 21, 112, 1);
        int[] due = {1, 2, 3, 5, NONE};
        for (int k = 0; k < due.length; k++) {
            Checks.same("find(" + k + ", 1)", x.find(k, 1), due[k]);
        }
        Checks.same("find(highest, 1)", x.find(HIGHEST, 1), NONE);
        Checks.same("find(-1, 1)", x.find(-1, 1), BAD);
        x.wipe();
        Checks.same("find(3, 1) without a pattern", x.find(3, 1), 5);
        Checks.same("find(-1, 1) without a pattern", x.find(-1, 1), BAD);
        Checks.remove(x, 1);
        Checks.same("find(0, 1) after a removal", x.find(0, 1), 2);
        x.clear();
        Checks.same("find(0, 1) without a text", x.find(0, 1), NONE);
    }

    /** 20: "both converted to float", "0.0 if there are no matches". */
    private static void mean() {
        WordGroups x = new WordGroups();
        Checks.same("mean() without words and text", x.mean(), 0.0f);
        Checks.insert(x, 1, -99);
        Checks.same("mean() without a text", x.mean(), 0.0f);
        Checks.type(x, 2);
        Checks.same("mean() without a match", x.mean(), 0.0f);
        Checks.type(x, 1);
        Checks.same("mean() of one match", x.mean(), -99.0f);
        Checks.insert(x, 2, 99);
        Checks.same("mean() of a sum of 0", x.mean(), 0.0f);
        Checks.type(x, 2);
        Checks.same("mean() that is whole", x.mean(), 33.0f);
        Checks.weigh(x, 2, 98);
        Checks.same("mean() that is not whole", x.mean(), 97.0f / 3.0f);
        Checks.weigh(x, 1, 99);
        Checks.weigh(x, 2, -99);
        Checks.same("mean() below 0", x.mean(), -33.0f);
        Checks.weigh(x, 1, 97);
        Checks.same("mean() below 0 that is not whole", x.mean(), -101.0f / 3.0f);
        x.clear();
        Checks.same("mean() without a text again", x.mean(), 0.0f);
    }

    /** 21: "replacing what it kept before"; "the number of live words; BAD if there is no such image". */
    private static void keep() {
        WordGroups x = new WordGroups();
        Checks.same("keep(0) of nothing", x.keep(0), 0);
        Checks.same("keep(-1)", x.keep(-1), BAD);
        Checks.same("keep(2)", x.keep(2), BAD);
        Checks.same("keep(lowest)", x.keep(LOWEST), BAD);
        Checks.same("keep(highest)", x.keep(HIGHEST), BAD);
        Checks.same("told(8), no change", x.told(8), 0);
        Checks.same("back(1), which keeps nothing", x.back(1), STATE);
        for (int k = 0; k < 24; k++) {
            Checks.insert(x, Checks.WORDS[k], 0);
        }
        Checks.same("keep(1) of 24 words", x.keep(1), 24);
        Checks.same("back(0), what was kept first", x.back(0), 0);
        Checks.same("keep(1) of nothing, replacing 24 words", x.keep(1), 0);
        Checks.same("back(1)", x.back(1), 0);
        x.undo();
        x.undo();
        Checks.same("told(0), the words before back(0)", x.told(0), 24);
        Checks.same("keep(0), replacing nothing", x.keep(0), 24);
        x.rebuild();
        Checks.same("back(0)", x.back(0), 24);
        Checks.same("told(4) of the image", x.told(4), 0);
    }

    /** 22: "the image stays. This is a change."; "BAD if there is no such image; STATE if it keeps nothing". */
    private static void back() {
        WordGroups x = Checks.withWords(1, 22, 333);
        Checks.remove(x, 22);
        for (int i : new int[] {LOWEST, -1, 2, HIGHEST}) {
            Checks.same("back(" + i + ")", x.back(i), BAD);
        }
        Checks.same("back(0), which keeps nothing", x.back(0), STATE);
        Checks.same("back(1), which keeps nothing", x.back(1), STATE);
        x.keep(1);
        String kept = Checks.state(x);
        Checks.same("back(0), while 1 keeps something", x.back(0), STATE);
        Checks.same("told(8)", x.told(8), 4);
        x.rebuild();
        Checks.insert(x, 44, -9);
        Checks.same("back(1)", x.back(1), 2);
        Checks.sameState("after back(1)", x, kept);
        Checks.same("told(8), a change", x.told(8), 7);
        Checks.remove(x, 1);
        Checks.same("back(1) again, the image stays", x.back(1), 2);
        Checks.sameState("after back(1) again", x, kept);
        Checks.same("told(8), at most", x.told(8), 8);
        x.undo();
        Checks.same("told(0) after undo() of back(1)", x.told(0), 1);
        Checks.same("back(1) after undo(), the image stays", x.back(1), 2);
    }
}
