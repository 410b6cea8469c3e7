/** Promises 1 to 6: a new object, the pattern and the text. */
final class PatternAndTextTest {
    public static void main(String[] args) {
        newObject();
        constants();
        write();
        wipe();
        spell();
        type();
        clear();
        Checks.end();
    }

    private static void newObject() {
        WordGroups x = new WordGroups();
        for (int what = 0; what <= 9; what++) {
            Checks.same("new: told(" + what + ")", x.told(what), 0);
        }
        for (int family = 0; family < 2; family++) {
            for (int group = 0; group < 7; group++) {
                for (int what = 0; what <= 4; what++) {
                    Checks.same("new: group(..)", x.group(family, group, what), 0);
                }
                Checks.same("new: item(..)", x.item(family, group, 0, 0), WordGroups.NONE);
            }
        }
        Checks.same("new: word(0, 0)", x.word(0, 0), WordGroups.NONE);
        Checks.same("new: undo()", x.undo(), WordGroups.STATE);
        Checks.same("new: back(0)", x.back(0), WordGroups.STATE);
        Checks.same("new: back(1)", x.back(1), WordGroups.STATE);
        Checks.same("new: wipe()", x.wipe(), 0);
        Checks.same("new: clear()", x.clear(), 0);

        WordGroups other = new WordGroups();
        Checks.insert(other, 1, 1);
        Checks.same("objects share nothing: told(0)", x.told(0), 0);
        Checks.same("objects share nothing: told(6)", x.told(6), 0);
    }

    private static void constants() {
        Checks.same("BAD", WordGroups.BAD, -1);
        Checks.same("STATE", WordGroups.STATE, -2);
        Checks.same("FULL", WordGroups.FULL, -3);
        Checks.same("NONE", WordGroups.NONE, -9999);
    }

    private static void write() {
        WordGroups x = new WordGroups();
        Checks.same("write(-1)", x.write(-1), WordGroups.BAD);
        Checks.same("write(4)", x.write(4), WordGroups.BAD);
        Checks.same("write(lowest)", x.write(Integer.MIN_VALUE), WordGroups.BAD);
        Checks.same("write(highest)", x.write(Integer.MAX_VALUE), WordGroups.BAD);
        Checks.same("told(6) after wrong letters", x.told(6), 0);
        int[] letters = {0, 3, 1, 2, 2, 0};
        for (int k = 0; k < 6; k++) {
            Checks.same("write(" + letters[k] + ")", x.write(letters[k]), k + 1);
        }
        Checks.same("write(0) as the seventh letter", x.write(0), WordGroups.FULL);
        Checks.same("write(4) as the seventh letter", x.write(4), WordGroups.BAD);
        Checks.same("told(6)", x.told(6), 6);
        x.insert(1);
        Checks.same("the code of what was written", x.word(0, 0), 142331);
    }

    private static void wipe() {
        WordGroups x = new WordGroups();
        x.write(2);
        x.write(0);
        x.write(3);
        Checks.same("wipe()", x.wipe(), 3);
        Checks.same("told(6) after wipe()", x.told(6), 0);
        Checks.same("wipe() again", x.wipe(), 0);
        Checks.same("type() after wipe()", x.type(), WordGroups.STATE);
        Checks.same("write(1) after wipe()", x.write(1), 1);
        x.insert(1);
        Checks.same("what was written after wipe()", x.word(0, 0), 2);
    }

    private static void spell() {
        WordGroups x = new WordGroups();
        int[] wrong = {0, -1, -12, 5, 10, 15, 51, 101, 150, 1011, 11115, 500000, 444445, 1111111, 4444441,
            Integer.MAX_VALUE, Integer.MIN_VALUE};
        x.spell(31);
        for (int code : wrong) {
            Checks.same("spell(" + code + ")", x.spell(code), WordGroups.BAD);
        }
        Checks.same("told(6) after wrong codes", x.told(6), 2);
        int[] codes = {1, 4, 11, 44, 142, 1234, 43214, 111111, 444444};
        int[] lengths = {1, 1, 2, 2, 3, 4, 5, 6, 6};
        for (int k = 0; k < codes.length; k++) {
            Checks.same("spell(" + codes[k] + ")", x.spell(codes[k]), lengths[k]);
            Checks.same("told(6)", x.told(6), lengths[k]);
        }
        x.spell(12);
        Checks.same("write(3) after spell(12)", x.write(3), 3);
        x.insert(1);
        Checks.same("the code of spell(12), write(3)", x.word(0, 0), 124);
    }

    private static void type() {
        WordGroups x = new WordGroups();
        Checks.same("type() of nothing", x.type(), WordGroups.STATE);
        x.spell(142);
        Checks.same("type()", x.type(), 3);
        x.spell(33);
        Checks.same("type()", x.type(), 5);
        Checks.same("told(6) after type()", x.told(6), 2);
        int[] letters = {0, 3, 1, 2, 2};
        for (int i = 0; i < 5; i++) {
            Checks.same("at(" + i + ", 0)", x.at(i, 0), letters[i]);
        }
        x.clear();
        x.spell(123412);
        for (int k = 1; k <= 9; k++) {
            Checks.same("type() of 6 letters", x.type(), 6 * k);
        }
        x.spell(1);
        Checks.same("type() of 1 letter", x.type(), 55);
        x.spell(123412);
        Checks.same("type() beyond 60 letters", x.type(), WordGroups.FULL);
        Checks.same("told(7) after FULL", x.told(7), 55);
        x.spell(44444);
        Checks.same("type() up to 60 letters", x.type(), 60);
        x.spell(1);
        Checks.same("type() of a 61st letter", x.type(), WordGroups.FULL);
        Checks.same("at(59, 0)", x.at(59, 0), 3);
        x.wipe();
        Checks.same("type() of nothing into a full text", x.type(), WordGroups.STATE);
    }

    private static void clear() {
        WordGroups x = new WordGroups();
        Checks.type(x, 111, 22);
        Checks.same("clear()", x.clear(), 5);
        Checks.same("told(7) after clear()", x.told(7), 0);
        Checks.same("told(6) after clear()", x.told(6), 2);
        Checks.same("at(0, 0) after clear()", x.at(0, 0), WordGroups.BAD);
        Checks.same("clear() again", x.clear(), 0);
        Checks.same("type() after clear()", x.type(), 2);
        Checks.same("at(0, 0) after type()", x.at(0, 0), 1);
    }
}
