/** Promises 7 to 11: the changes, and undo. */
final class ChangesTest {
    public static void main(String[] args) {
        insert();
        insertRefused();
        removeIntoGroups();
        removeWithRebuilding();
        removeRefused();
        weigh();
        weighWithRebuilding();
        weighRefused();
        rebuild();
        rebuildIntoEachGroup();
        undo();
        undoAtMostEight();
        refusedCallsAreNoChanges();
        Checks.end();
    }

    private static void insert() {
        WordGroups x = new WordGroups();
        int[] groups = {0, 1, 0, 2, 0, 1, 0, 3, 0, 1, 0, 2, 0, 1, 0, 4, 0, 1, 0, 2, 0, 1, 0, 3};
        for (int k = 0; k < 24; k++) {
            Checks.same("insert " + (k + 1), Checks.insert(x, Checks.WORDS[k], k - 12), groups[k]);
            Checks.same("told(0)", x.told(0), k + 1);
            Checks.same("told(1)", x.told(1), k + 1);
        }
        Checks.same("group(0, 4, 0)", x.group(0, 4, 0), 16);
        Checks.same("group(0, 3, 0)", x.group(0, 3, 0), 8);
        Checks.same("told(9)", x.told(9), 2);
        // Each item is paid for when it comes in and whenever its group is emptied into a higher one.
        WordGroups y = new WordGroups();
        int[] codes = {1, 22, 333, 4444, 11111};
        int[] costs = {1, 1 + 3, 1 + 3 + 3, 1 + 3 + 3 + 10, 1 + 3 + 3 + 10 + 5};
        for (int k = 0; k < codes.length; k++) {
            Checks.insert(y, codes[k], 0);
            Checks.same("told(3) after insert " + (k + 1), y.told(3), costs[k]);
        }
    }

    private static void insertRefused() {
        WordGroups x = new WordGroups();
        Checks.same("insert(100) of nothing", x.insert(100), WordGroups.BAD);
        Checks.same("insert(0) of nothing", x.insert(0), WordGroups.STATE);
        Checks.same("insert of weight 99", Checks.insert(x, 1, 99), 0);
        Checks.same("insert of weight -99", Checks.insert(x, 2, -99), 1);
        Checks.same("word(0, 1)", x.word(0, 1), 99);
        Checks.same("word(1, 1)", x.word(1, 1), -99);
        Checks.same("insert of a live word", Checks.insert(x, 1, 5), WordGroups.STATE);
        Checks.same("insert of a live word, weight 100", x.insert(100), WordGroups.BAD);
        Checks.same("insert(-100)", Checks.insert(x, 3, -100), WordGroups.BAD);
        Checks.same("insert(lowest)", x.insert(Integer.MIN_VALUE), WordGroups.BAD);
        Checks.same("insert(highest)", x.insert(Integer.MAX_VALUE), WordGroups.BAD);
        Checks.same("told(0)", x.told(0), 2);

        WordGroups y = Checks.withManyWords(24);
        Checks.same("a 25th word", Checks.insert(y, 121, 1), WordGroups.FULL);
        Checks.same("a 25th word, weight 100", y.insert(100), WordGroups.BAD);
        Checks.same("a live word of 24", Checks.insert(y, 1, 1), WordGroups.STATE);
        y.wipe();
        Checks.same("nothing beside 24 words", y.insert(1), WordGroups.STATE);
        Checks.same("told(0)", y.told(0), 24);
        Checks.remove(y, 1);
        Checks.same("again a 24th word", Checks.insert(y, 121, 1), 0);
        Checks.same("and a 25th", Checks.insert(y, 1, 1), WordGroups.FULL);
    }

    private static void removeIntoGroups() {
        WordGroups x = Checks.withManyWords(8);
        int costs = x.told(3);
        Checks.same("costs of 8 words", costs, 1 + 2 + 1 + 4 + 2 + 4 + 2 + 12);
        Checks.same("remove 4", Checks.remove(x, 4), 0);
        Checks.same("told(3)", x.told(3), costs + 1);
        Checks.same("remove 14", Checks.remove(x, 14), 1);
        Checks.same("told(3)", x.told(3), costs + 1 + 3);
        Checks.same("remove 11", Checks.remove(x, 11), 0);
        Checks.same("told(3)", x.told(3), costs + 1 + 3 + 2);
        Checks.same("remove 1", Checks.remove(x, 1), 2);
        Checks.same("told(3)", x.told(3), costs + 1 + 3 + 2 + 6);
        Checks.same("told(0)", x.told(0), 4);
        Checks.same("told(1)", x.told(1), 8);
        Checks.same("told(2)", x.told(2), 4);
        Checks.same("told(4)", x.told(4), 0);
        int[] codes = {1, 4, 11, 14};
        int[] weights = {0, 3, 4, 7};
        for (int k = 0; k < 4; k++) {
            Checks.same("item(1, 2, " + k + ", 0)", x.item(1, 2, k, 0), codes[k]);
            Checks.same("item(1, 2, " + k + ", 1)", x.item(1, 2, k, 1), weights[k]);
        }
        Checks.same("told(0)", x.told(0), 4);
        Checks.same("word(0, 0)", x.word(0, 0), 2);
        Checks.same("insert again", Checks.insert(x, 1, 50), 0);
        Checks.same("its weight", x.word(0, 1), 50);
    }

    private static void removeWithRebuilding() {
        WordGroups x = Checks.withManyWords(8);
        for (int code : new int[] {4, 14, 11, 1}) {
            Checks.remove(x, code);
        }
        int costs = x.told(3);
        // The fifth removed item of 8: first it is put into the group 0, then 2, 12 and 13 are left.
        Checks.same("remove 3", Checks.remove(x, 3), 12);
        Checks.same("told(3), both costs", x.told(3), costs + 1 + 5);
        Checks.same("told(4)", x.told(4), 1);
        Checks.same("told(1)", x.told(1), 3);
        Checks.same("told(2)", x.told(2), 0);
        Checks.same("told(9)", x.told(9), 1);
        Checks.same("group(0, 2, 0)", x.group(0, 2, 0), 3);
        Checks.same("remove 13", Checks.remove(x, 13), 0);
        Checks.same("remove 2", Checks.remove(x, 2), 10);
        Checks.same("told(4)", x.told(4), 2);
        Checks.same("remove 12, the last one", Checks.remove(x, 12), 20);
        Checks.same("told(1)", x.told(1), 0);
        Checks.same("told(2)", x.told(2), 0);
        Checks.same("told(4)", x.told(4), 3);
        Checks.same("told(9)", x.told(9), 0);

        WordGroups y = Checks.withWords(444444);
        Checks.same("remove the only word", y.remove(), 20);
        Checks.same("told(3) of it", y.told(3), 12);
        WordGroups z = Checks.withWords(1, 22);
        Checks.same("remove one of two", Checks.remove(z, 1), 0);
        WordGroups three = Checks.withWords(1, 22, 333);
        Checks.same("remove one of three", Checks.remove(three, 1), 0);
        Checks.same("remove two of three", Checks.remove(three, 333), 10);
    }

    private static void removeRefused() {
        WordGroups x = new WordGroups();
        Checks.same("remove() of nothing", x.remove(), WordGroups.STATE);
        Checks.same("remove() of a word that is not live", Checks.remove(x, 12), WordGroups.STATE);
        x = Checks.withWords(1, 12);
        Checks.same("remove() of a beginning", Checks.remove(x, 2), WordGroups.STATE);
        Checks.same("remove()", Checks.remove(x, 12), 0);
        Checks.same("remove() again", x.remove(), WordGroups.STATE);
        Checks.same("told(0)", x.told(0), 1);
    }

    private static void weigh() {
        WordGroups x = Checks.withWords(1, 22, 333, 4444);
        int costs = x.told(3);
        Checks.same("weigh 22", Checks.weigh(x, 22, -99), 102);
        Checks.same("word(1, 1)", x.word(1, 1), -99);
        Checks.same("told(0)", x.told(0), 4);
        Checks.same("told(1)", x.told(1), 5);
        Checks.same("told(2)", x.told(2), 1);
        Checks.same("told(3)", x.told(3), costs + 2 + 2);
        Checks.same("told(5)", x.told(5), 1 - 99 + 3 + 4);
        Checks.same("item(1, 0, 0, 1)", x.item(1, 0, 0, 1), 2);
        Checks.same("item(0, 0, 0, 1)", x.item(0, 0, 0, 1), -99);
        Checks.same("weigh 22 again", x.weigh(99), 1);
        Checks.same("weigh 22 to the weight that it has", x.weigh(99), 199);
        Checks.same("told(8)", x.told(8), 7);
        x.undo();
        x.undo();
        Checks.same("word(1, 1) after undo", x.word(1, 1), -99);
        Checks.same("told(2) after undo", x.told(2), 1);
    }

    private static void weighWithRebuilding() {
        WordGroups x = Checks.withWords(333);
        Checks.same("weigh the only word", x.weigh(7), 101);
        Checks.same("told(0)", x.told(0), 1);
        Checks.same("told(1)", x.told(1), 1);
        Checks.same("told(2)", x.told(2), 0);
        Checks.same("told(4)", x.told(4), 1);
        Checks.same("told(3)", x.told(3), 3 + 3 + 0 + 3);
        Checks.same("told(8)", x.told(8), 2);
        Checks.same("undo", x.undo(), 1);
        Checks.same("word(0, 1) after undo", x.word(0, 1), 1);
        Checks.same("told(4) after undo", x.told(4), 0);

        WordGroups y = Checks.withWords(1, 22, 333);
        Checks.remove(y, 333);
        // The second removal of three rebuilds: 22 comes into the group 0, then 1 and 22 into the group 1.
        Checks.same("weigh 1", Checks.weigh(y, 1, 9), 101);
        Checks.same("told(4)", y.told(4), 1);
        Checks.same("group(0, 1, 0)", y.group(0, 1, 0), 2);
        Checks.same("told(3)", y.told(3), (1 + 3 + 3) + 3 + 4 + 2 + 3);

        WordGroups full = Checks.withManyWords(24);
        Checks.same("weigh one of 24", Checks.weigh(full, 24, 3), 111);
        Checks.same("told(0)", full.told(0), 24);
    }

    private static void weighRefused() {
        WordGroups x = new WordGroups();
        Checks.same("weigh(100) of nothing", x.weigh(100), WordGroups.BAD);
        Checks.same("weigh(0) of nothing", x.weigh(0), WordGroups.STATE);
        Checks.insert(x, 12, 4);
        Checks.same("weigh(100)", x.weigh(100), WordGroups.BAD);
        Checks.same("weigh(-100)", x.weigh(-100), WordGroups.BAD);
        Checks.same("weigh(highest)", x.weigh(Integer.MAX_VALUE), WordGroups.BAD);
        Checks.same("weigh(lowest)", x.weigh(Integer.MIN_VALUE), WordGroups.BAD);
        Checks.same("weigh of a word that is not live", Checks.weigh(x, 21, 0), WordGroups.STATE);
        Checks.same("word(0, 1)", x.word(0, 1), 4);
        Checks.same("told(2)", x.told(2), 0);
    }

    private static void rebuild() {
        WordGroups x = new WordGroups();
        Checks.same("rebuild() of nothing", x.rebuild(), 0);
        Checks.same("told(4)", x.told(4), 1);
        Checks.same("told(8)", x.told(8), 1);
        Checks.same("told(9)", x.told(9), 0);
        x = Checks.withWords(1, 22, 333, 4444, 11111);
        Checks.remove(x, 22);
        Checks.weigh(x, 1, -5);
        int costs = x.told(3);
        Checks.same("rebuild()", x.rebuild(), 13);
        Checks.same("told(3)", x.told(3), costs + 13);
        Checks.same("told(4)", x.told(4), 1);
        Checks.same("told(1)", x.told(1), 4);
        Checks.same("told(2)", x.told(2), 0);
        Checks.same("told(9)", x.told(9), 1);
        int[] codes = {1, 333, 4444, 11111};
        int[] weights = {-5, 3, 4, 5};
        for (int k = 0; k < 4; k++) {
            Checks.same("item(0, 2, " + k + ", 0)", x.item(0, 2, k, 0), codes[k]);
            Checks.same("item(0, 2, " + k + ", 1)", x.item(0, 2, k, 1), weights[k]);
        }
        Checks.same("rebuild() again", x.rebuild(), 13);
        Checks.same("told(4)", x.told(4), 2);
    }

    private static void rebuildIntoEachGroup() {
        int[] groups = {0, 1, 2, 2, 3, 3, 3, 3, 4, 4, 4, 4, 4, 4, 4, 4, 5, 5, 5, 5, 5, 5, 5, 5};
        for (int count = 1; count <= 24; count++) {
            WordGroups x = Checks.withManyWords(count);
            x.rebuild();
            Checks.same("the group of " + count + " words", x.group(0, groups[count - 1], 0), count);
            Checks.same("told(9)", x.told(9), 1);
        }
        WordGroups x = Checks.withManyWords(17);
        x.rebuild();
        Checks.same("insert beside the group 5", Checks.insert(x, 44, 1), 0);
        Checks.same("insert beside the group 5", Checks.insert(x, 43, 1), 1);
        Checks.same("told(9)", x.told(9), 2);
    }

    private static void undo() {
        WordGroups x = new WordGroups();
        Checks.same("undo() of nothing", x.undo(), WordGroups.STATE);
        x = Checks.withWords(1, 22, 333);
        String three = Checks.state(x);
        Checks.type(x, 22, 1);
        x.keep(0);
        Checks.remove(x, 22);
        String removed = Checks.state(x);
        Checks.remove(x, 1);
        Checks.same("told(4)", x.told(4), 1);
        Checks.same("undo()", x.undo(), 4);
        Checks.sameState("undo() of a rebuilding", x, removed);
        Checks.same("told(6), the pattern stays", x.told(6), 1);
        Checks.same("told(7), the text stays", x.told(7), 3);
        Checks.same("undo()", x.undo(), 3);
        Checks.sameState("undo() of a removal", x, three);
        x.undo();
        x.undo();
        Checks.same("undo()", x.undo(), 0);
        Checks.same("undo() of no more", x.undo(), WordGroups.STATE);
        Checks.same("told(0)", x.told(0), 0);
        Checks.same("told(3)", x.told(3), 0);
        Checks.same("back(0), the image stays", x.back(0), 3);
        Checks.sameState("back(0)", x, three);
    }

    private static void undoAtMostEight() {
        WordGroups x = new WordGroups();
        String[] states = new String[21];
        for (int k = 0; k < 20; k++) {
            states[k] = Checks.state(x);
            Checks.insert(x, Checks.WORDS[k], k);
            Checks.same("told(8)", x.told(8), Math.min(k + 1, 8));
        }
        for (int k = 7; k >= 0; k--) {
            Checks.same("undo()", x.undo(), k);
            Checks.sameState("undo()", x, states[12 + k]);
        }
        Checks.same("a ninth undo()", x.undo(), WordGroups.STATE);
        Checks.same("told(0)", x.told(0), 12);
        x.rebuild();
        x.rebuild();
        Checks.same("undo() after new changes", x.undo(), 1);
        Checks.same("undo() after new changes", x.undo(), 0);
        Checks.sameState("undo() after new changes", x, states[12]);
    }

    private static void refusedCallsAreNoChanges() {
        WordGroups x = Checks.withManyWords(24);
        String before = Checks.state(x);
        x.spell(1);
        x.insert(1);
        x.insert(200);
        x.weigh(200);
        x.back(0);
        x.back(2);
        x.keep(2);
        x.spell(144);
        x.insert(1);
        x.remove();
        x.weigh(1);
        x.write(9);
        Checks.sameState("after refused calls", x, before);
        Checks.same("told(6) after refused calls", x.told(6), 3);
        x.undo();
        Checks.same("told(0): the latest change was the 24th word", x.told(0), 23);
        Checks.same("told(8)", x.told(8), 7);
    }
}
