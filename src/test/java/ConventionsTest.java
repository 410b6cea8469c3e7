import java.util.function.ToIntFunction;

/**
 * "CONVENTIONS": each call that is refused, and why; which of several codes is returned; that nothing changes
 * behind such a call (the pattern, the text, the state, the history and the images); and NONE.
 */
final class ConventionsTest {
    private static final int BAD = WordGroups.BAD, STATE = WordGroups.STATE, FULL = WordGroups.FULL;
    private static final int NONE = WordGroups.NONE;
    private static final int LOWEST = Integer.MIN_VALUE, HIGHEST = Integer.MAX_VALUE;

    public static void main(String[] args) {
        codes();
        refusedLetters();
        refusedCodes();
        refusedTypes();
        refusedInserts();
        refusedRemoves();
        refusedWeighs();
        refusedUndo();
        refusedImages();
        refusedTold();
        refusedWord();
        refusedGroup();
        refusedItem();
        refusedFollow();
        refusedAt();
        refusedTotal();
        refusedFind();
        severalReasons();
        noneOnlyWithoutErrors();
        noneChangesNothing();
        asksChangeNothing();
        Checks.end();
    }

    /** Everything at its most: 24 words, 60 letters of text, 8 states, both images; the pattern is a live word. */
    private static WordGroups full() {
        WordGroups x = Checks.withManyWords(22);
        x.keep(0);
        Checks.insert(x, 113, 50);
        x.keep(1);
        Checks.insert(x, 123412, -5);
        for (int k = 0; k < 10; k++) {
            x.type();
        }
        return x;
    }

    private static WordGroups fullWithNewPattern() {
        WordGroups x = full();
        x.spell(44444);
        return x;
    }

    private static WordGroups fullWithoutPattern() {
        WordGroups x = full();
        x.wipe();
        return x;
    }

    /** Three words, of which one is removed; its letters are the pattern. Only the image 0 keeps something. */
    private static WordGroups few() {
        WordGroups x = Checks.withWords(1, 22, 333);
        x.keep(0);
        Checks.type(x, 122, 333);
        Checks.remove(x, 22);
        return x;
    }

    private static WordGroups empty() {
        return new WordGroups();
    }

    /** "The error codes are BAD (-1) .. STATE (-2) .. FULL (-3)", "NONE (-9999)". */
    private static void codes() {
        Checks.same("BAD", BAD, -1);
        Checks.same("STATE", STATE, -2);
        Checks.same("FULL", FULL, -3);
        Checks.same("NONE", NONE, -9999);
    }

    private static void refusedWhenFew(String named, ToIntFunction<WordGroups> call, int code) {
        Checks.refused(named, ConventionsTest::few, call, code);
    }

    private static void refusedWhenFull(String named, ToIntFunction<WordGroups> call, int code) {
        Checks.refused(named, ConventionsTest::full, call, code);
    }

    private static void refusedWhenFullWithNewPattern(String named, ToIntFunction<WordGroups> call, int code) {
        Checks.refused(named + " beside 24 words", ConventionsTest::fullWithNewPattern, call, code);
    }

    private static void refusedWithoutPattern(String named, ToIntFunction<WordGroups> call, int code) {
        Checks.refused(named + " of nothing", ConventionsTest::empty, call, code);
        Checks.refused(named + " of nothing, all full", ConventionsTest::fullWithoutPattern, call, code);
    }

    private static void refusedLetters() {
        for (int letter : new int[] {LOWEST, -1, 4, HIGHEST}) {
            refusedWhenFew("write(" + letter + ")", x -> x.write(letter), BAD);
            refusedWhenFull("write(" + letter + ") to 6 letters", x -> x.write(letter), BAD);
        }
        for (int letter = 0; letter <= 3; letter++) {
            int written = letter;
            refusedWhenFull("write(" + letter + ") to 6 letters", x -> x.write(written), FULL);
        }
    }

    private static void refusedCodes() {
        int[] wrong = {LOWEST, -444444, -1, 0, 5, 10, 15, 40, 50, 101, 1234512, 444445, 1111111, HIGHEST};
        for (int code : wrong) {
            refusedWhenFew("spell(" + code + ")", x -> x.spell(code), BAD);
        }
    }

    private static void refusedTypes() {
        refusedWithoutPattern("type()", WordGroups::type, STATE);
        refusedWhenFull("type() of 6 letters to 60", WordGroups::type, FULL);
        Checks.refused("type() of 1 letter to 60", () -> {
            WordGroups x = full();
            x.spell(1);
            return x;
        }, WordGroups::type, FULL);
        Checks.refused("type() of 6 letters to 55", () -> {
            WordGroups x = empty();
            Checks.type(x, 11111, 222222, 222222, 222222, 222222, 222222, 222222, 222222, 222222, 22, 123412);
            return x;
        }, WordGroups::type, FULL);
    }

    private static void refusedInserts() {
        for (int weight : new int[] {LOWEST, -100, 100, HIGHEST}) {
            refusedWhenFew("insert(" + weight + ")", x -> x.insert(weight), BAD);
        }
        refusedWithoutPattern("insert(0)", x -> x.insert(0), STATE);
        Checks.refused("insert(3) of a live word", () -> Checks.withWords(1, 22), x -> x.insert(3), STATE);
        Checks.refused("insert(2) of a live word, its weight", () -> Checks.withWords(1, 22), x -> x.insert(2), STATE);
        refusedWhenFullWithNewPattern("insert(-99)", x -> x.insert(-99), FULL);
        refusedWhenFullWithNewPattern("insert(99)", x -> x.insert(99), FULL);
    }

    private static void refusedRemoves() {
        refusedWithoutPattern("remove()", WordGroups::remove, STATE);
        refusedWhenFew("remove() of a removed word", WordGroups::remove, STATE);
        refusedWhenFullWithNewPattern("remove() of a word that never was live", WordGroups::remove, STATE);
    }

    private static void refusedWeighs() {
        for (int weight : new int[] {LOWEST, -100, 100, HIGHEST}) {
            refusedWhenFull("weigh(" + weight + ")", x -> x.weigh(weight), BAD);
        }
        refusedWithoutPattern("weigh(0)", x -> x.weigh(0), STATE);
        refusedWhenFew("weigh(0) of a removed word", x -> x.weigh(0), STATE);
        refusedWhenFullWithNewPattern("weigh(99) of a word that never was live", x -> x.weigh(99), STATE);
    }

    private static void refusedUndo() {
        Checks.refused("undo() of nothing", ConventionsTest::empty, WordGroups::undo, STATE);
        Checks.refused("undo() after all is undone", () -> {
            WordGroups x = few();
            x.undo();
            x.undo();
            x.undo();
            x.undo();
            return x;
        }, WordGroups::undo, STATE);
        Checks.refused("a ninth undo()", () -> {
            WordGroups x = Checks.withManyWords(12);
            for (int k = 0; k < 8; k++) {
                x.undo();
            }
            return x;
        }, WordGroups::undo, STATE);
    }

    private static void refusedImages() {
        for (int i : new int[] {LOWEST, -1, 2, HIGHEST}) {
            refusedWhenFew("keep(" + i + ")", x -> x.keep(i), BAD);
            refusedWhenFull("back(" + i + ")", x -> x.back(i), BAD);
            Checks.refused("back(" + i + ")", ConventionsTest::empty, x -> x.back(i), BAD);
        }
        refusedWhenFew("back(1), which keeps nothing", x -> x.back(1), STATE);
        Checks.refused("back(0), which keeps nothing", ConventionsTest::empty, x -> x.back(0), STATE);
    }

    private static void refusedTold() {
        for (int what : new int[] {LOWEST, -1, 10, HIGHEST}) {
            refusedWhenFew("told(" + what + ")", x -> x.told(what), BAD);
        }
    }

    private static void refusedWord() {
        for (int what : new int[] {LOWEST, -1, 3, HIGHEST}) {
            refusedWhenFew("word(0, " + what + ")", x -> x.word(0, what), BAD);
        }
        for (int what = 0; what <= 2; what++) {
            int asked = what;
            refusedWhenFew("word(-1, " + what + ")", x -> x.word(-1, asked), BAD);
            refusedWhenFew("word(lowest, " + what + ")", x -> x.word(LOWEST, asked), BAD);
        }
    }

    private static void refusedGroup() {
        for (int wrong : new int[] {LOWEST, -1, 2, HIGHEST}) {
            refusedWhenFew("group(" + wrong + ", 0, 0)", x -> x.group(wrong, 0, 0), BAD);
        }
        for (int wrong : new int[] {LOWEST, -1, 7, HIGHEST}) {
            refusedWhenFew("group(0, " + wrong + ", 0)", x -> x.group(0, wrong, 0), BAD);
            refusedWhenFew("group(1, " + wrong + ", 0)", x -> x.group(1, wrong, 0), BAD);
        }
        for (int wrong : new int[] {LOWEST, -1, 5, HIGHEST}) {
            refusedWhenFew("group(0, 0, " + wrong + ")", x -> x.group(0, 0, wrong), BAD);
            refusedWhenFew("group(1, 6, " + wrong + ")", x -> x.group(1, 6, wrong), BAD);
        }
    }

    private static void refusedItem() {
        for (int wrong : new int[] {LOWEST, -1, 2, HIGHEST}) {
            refusedWhenFew("item(" + wrong + ", 0, 0, 0)", x -> x.item(wrong, 0, 0, 0), BAD);
            refusedWhenFew("item(0, 0, 0, " + wrong + ")", x -> x.item(0, 0, 0, wrong), BAD);
        }
        for (int wrong : new int[] {LOWEST, -1, 7, HIGHEST}) {
            refusedWhenFew("item(0, " + wrong + ", 0, 0)", x -> x.item(0, wrong, 0, 0), BAD);
            refusedWhenFew("item(1, " + wrong + ", 0, 0)", x -> x.item(1, wrong, 0, 0), BAD);
        }
        for (int wrong : new int[] {LOWEST, -1}) {
            refusedWhenFew("item(0, 0, " + wrong + ", 0)", x -> x.item(0, 0, wrong, 0), BAD);
            refusedWhenFew("item(0, 1, " + wrong + ", 1)", x -> x.item(0, 1, wrong, 1), BAD);
        }
    }

    private static void refusedFollow() {
        for (int wrong : new int[] {LOWEST, -1, 2, HIGHEST}) {
            refusedWhenFew("follow(" + wrong + ", 0, 0)", x -> x.follow(wrong, 0, 0), BAD);
        }
        for (int wrong : new int[] {LOWEST, -1, 7, HIGHEST}) {
            refusedWhenFew("follow(0, " + wrong + ", 0)", x -> x.follow(0, wrong, 0), BAD);
            refusedWhenFew("follow(1, " + wrong + ", 0)", x -> x.follow(1, wrong, 0), BAD);
        }
        for (int wrong : new int[] {LOWEST, -1}) {
            refusedWhenFew("follow(0, 0, " + wrong + ")", x -> x.follow(0, 0, wrong), BAD);
        }
    }

    private static void refusedAt() {
        for (int what = 0; what <= 4; what++) {
            int asked = what;
            for (int wrong : new int[] {LOWEST, -1, 6, HIGHEST}) {
                refusedWhenFew("at(" + wrong + ", " + what + ")", x -> x.at(wrong, asked), BAD);
            }
            refusedWhenFull("at(60, " + what + ")", x -> x.at(60, asked), BAD);
            Checks.refused("at(0, " + what + ")", ConventionsTest::empty, x -> x.at(0, asked), BAD);
        }
        for (int wrong : new int[] {LOWEST, -1, 5, HIGHEST}) {
            refusedWhenFew("at(0, " + wrong + ")", x -> x.at(0, wrong), BAD);
        }
    }

    private static void refusedTotal() {
        for (int what : new int[] {LOWEST, -1, 6, HIGHEST}) {
            refusedWhenFew("total(" + what + ")", x -> x.total(what), BAD);
            Checks.refused("total(" + what + ")", ConventionsTest::empty, x -> x.total(what), BAD);
        }
    }

    private static void refusedFind() {
        for (int wrong : new int[] {LOWEST, -1}) {
            refusedWhenFew("find(" + wrong + ", 0)", x -> x.find(wrong, 0), BAD);
            refusedWhenFew("find(" + wrong + ", 1)", x -> x.find(wrong, 1), BAD);
        }
        for (int wrong : new int[] {LOWEST, -1, 2, HIGHEST}) {
            refusedWhenFew("find(0, " + wrong + ")", x -> x.find(0, wrong), BAD);
        }
        refusedWithoutPattern("find(0, 0)", x -> x.find(0, 0), STATE);
    }

    /** "If several of them apply to one call, the first one in this list is returned." */
    private static void severalReasons() {
        refusedWhenFull("BAD and FULL: write(4)", x -> x.write(4), BAD);
        // An empty pattern would not make a text of 60 letters longer, so FULL does not apply.
        Checks.refused("STATE: type()", ConventionsTest::fullWithoutPattern, WordGroups::type, STATE);
        Checks.refused("BAD and STATE: insert(100) of nothing", ConventionsTest::empty, x -> x.insert(100), BAD);
        Checks.refused("BAD and STATE: insert(100) of a live word", () -> Checks.withWords(1), x -> x.insert(100), BAD);
        refusedWhenFullWithNewPattern("BAD and FULL: insert(100)", x -> x.insert(100), BAD);
        refusedWhenFull("BAD, STATE and FULL: insert(-100)", x -> x.insert(-100), BAD);
        refusedWhenFull("STATE and FULL: insert(0) of a live word", x -> x.insert(0), STATE);
        Checks.refused("BAD, STATE and FULL: insert(100)", ConventionsTest::fullWithoutPattern,
            x -> x.insert(100), BAD);
        Checks.refused("STATE and FULL: insert(0)", ConventionsTest::fullWithoutPattern, x -> x.insert(0), STATE);
        Checks.refused("BAD and STATE: weigh(100) of nothing", ConventionsTest::empty, x -> x.weigh(100), BAD);
        refusedWhenFew("BAD and STATE: weigh(-100) of a removed word", x -> x.weigh(-100), BAD);
        Checks.refused("BAD and STATE: find(-1, 0)", ConventionsTest::fullWithoutPattern, x -> x.find(-1, 0), BAD);
    }

    /** "it is returned only if no error code applies". */
    private static void noneOnlyWithoutErrors() {
        WordGroups x = few();
        Checks.same("word(2, 3)", x.word(2, 3), BAD);
        Checks.same("word(2, -1)", x.word(2, -1), BAD);
        Checks.same("item(0, 0, 1, 2)", x.item(0, 0, 1, 2), BAD);
        Checks.same("item(0, 0, 1, -1)", x.item(0, 0, 1, -1), BAD);
        Checks.same("item(2, 0, 9, 0)", x.item(2, 0, 9, 0), BAD);
        Checks.same("item(0, 7, 9, 0)", x.item(0, 7, 9, 0), BAD);
        Checks.same("item(0, 6, -1, 0) of an empty group", x.item(0, 6, -1, 0), BAD);
        Checks.same("follow(0, 6, -1) of an empty group", x.follow(0, 6, -1), BAD);
        Checks.same("follow(2, 0, 61)", x.follow(2, 0, 61), BAD);
        Checks.same("follow(0, 7, 61)", x.follow(0, 7, 61), BAD);
        Checks.same("find(99, 2)", x.find(99, 2), BAD);
        Checks.same("at(6, 3)", x.at(6, 3), BAD);
        Checks.same("total(6) without a text", empty().total(6), BAD);
        x.wipe();
        Checks.same("find(99, 0) of nothing", x.find(99, 0), STATE);
        Checks.same("find(99, 1) of nothing", x.find(99, 1), NONE);
    }

    private static void noneChangesNothing() {
        Checks.refused("word(2, 0)", ConventionsTest::few, x -> x.word(2, 0), NONE);
        Checks.refused("item(0, 0, 1, 0)", ConventionsTest::few, x -> x.item(0, 0, 1, 0), NONE);
        Checks.refused("follow(0, 6, 0)", ConventionsTest::few, x -> x.follow(0, 6, 0), NONE);
        Checks.refused("follow(0, 0, 7)", ConventionsTest::few, x -> x.follow(0, 0, 7), NONE);
        Checks.refused("at(1, 3)", ConventionsTest::few, x -> x.at(1, 3), NONE);
        Checks.refused("total(3)", ConventionsTest::empty, x -> x.total(3), NONE);
        Checks.refused("find(9, 0)", ConventionsTest::few, x -> x.find(9, 0), NONE);
        Checks.refused("find(9, 1)", ConventionsTest::few, x -> x.find(9, 1), NONE);
    }

    /** What is only asked is no change of anything, also where it has an answer. */
    private static void asksChangeNothing() {
        Checks.changesNothing("all that can be asked", ConventionsTest::few, x -> {
            for (int what = 0; what <= 9; what++) {
                x.told(what);
                x.total(what);
                x.group(0, 1, what);
                x.at(3, what);
                x.word(1, what);
                x.follow(0, 0, what);
            }
            x.item(0, 1, 1, 1);
            x.find(0, 0);
            x.find(0, 1);
            return (int) x.mean();
        });
    }
}
