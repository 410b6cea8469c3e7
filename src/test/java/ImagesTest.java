/** Promises 21 and 22: the images. */
final class ImagesTest {
    public static void main(String[] args) {
        keep();
        back();
        backIsAChange();
        imagesAreCopies();
        refused();
        Checks.end();
    }

    private static void keep() {
        WordGroups x = new WordGroups();
        Checks.same("keep(0) of nothing", x.keep(0), 0);
        Checks.same("back(0) to nothing", x.back(0), 0);
        Checks.same("back(1)", x.back(1), WordGroups.STATE);
        x = Checks.withWords(1, 22, 333);
        String before = Checks.state(x);
        Checks.same("keep(1)", x.keep(1), 3);
        Checks.sameState("after keep(1)", x, before);
        Checks.same("told(8): no change", x.told(8), 3);
        Checks.same("back(0)", x.back(0), WordGroups.STATE);
        Checks.remove(x, 1);
        Checks.same("keep(1) again", x.keep(1), 2);
        Checks.same("back(1) to what was kept last", x.back(1), 2);
    }

    private static void back() {
        WordGroups x = Checks.withWords(1, 22, 333, 4444, 11111);
        Checks.remove(x, 22);
        x.keep(0);
        String first = Checks.state(x);
        x.rebuild();
        Checks.weigh(x, 333, -8);
        x.keep(1);
        String second = Checks.state(x);
        Checks.type(x, 333, 1);
        x.spell(42);
        Checks.same("back(0)", x.back(0), 4);
        Checks.sameState("back(0)", x, first);
        Checks.same("told(4), the rebuildings too", x.told(4), 0);
        Checks.same("told(6), the pattern stays", x.told(6), 2);
        Checks.same("told(7), the text stays", x.told(7), 4);
        Checks.same("back(1)", x.back(1), 4);
        Checks.sameState("back(1)", x, second);
        Checks.same("back(0) again, the image stays", x.back(0), 4);
        Checks.sameState("back(0) again", x, first);
    }

    private static void backIsAChange() {
        WordGroups x = Checks.withWords(1);
        x.keep(0);
        Checks.insert(x, 22, 2);
        String before = Checks.state(x);
        x.back(0);
        Checks.same("told(8)", x.told(8), 3);
        Checks.same("undo() of back(0)", x.undo(), 2);
        Checks.sameState("undo() of back(0)", x, before);
        for (int k = 0; k < 9; k++) {
            x.back(0);
        }
        Checks.same("told(8), at most", x.told(8), 8);
    }

    private static void imagesAreCopies() {
        WordGroups x = Checks.withWords(1, 22, 333);
        x.keep(0);
        String kept = Checks.state(x);
        x.back(0);
        Checks.remove(x, 1);
        Checks.remove(x, 22);
        Checks.insert(x, 4, 9);
        x.undo();
        x.rebuild();
        x.back(0);
        Checks.sameState("the image is a copy", x, kept);
        x.undo();
        x.undo();
        x.undo();
        x.undo();
        Checks.sameState("the history is a copy", x, kept);
        x.keep(1);
        Checks.remove(x, 1);
        x.keep(0);
        x.back(1);
        Checks.sameState("the images are two", x, kept);
    }

    private static void refused() {
        WordGroups x = Checks.withWords(1);
        for (int i : new int[] {-1, 2, Integer.MIN_VALUE, Integer.MAX_VALUE}) {
            Checks.same("keep(" + i + ")", x.keep(i), WordGroups.BAD);
            Checks.same("back(" + i + ")", x.back(i), WordGroups.BAD);
        }
        Checks.same("back(0)", x.back(0), WordGroups.STATE);
        Checks.same("told(8)", x.told(8), 1);
        Checks.same("told(0)", x.told(0), 1);
    }
}
