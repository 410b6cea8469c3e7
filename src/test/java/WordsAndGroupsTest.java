/** Promises 12 to 16: what is told of words and groups. */
final class WordsAndGroupsTest {
    public static void main(String[] args) {
        told();
        word();
        group();
        groupOfRemovedItems();
        failures();
        item();
        sameWordInSeveralItems();
        follow();
        wrongGroups();
        Checks.end();
    }

    private static void told() {
        WordGroups x = Checks.withWords(1, 22, 333, 4444, 11111);
        Checks.remove(x, 22);
        Checks.type(x, 123, 4);
        x.spell(1234);
        int[] due = {4, 5, 1, (1 + 3 + 3 + 10 + 5) + 2, 0, 1 + 3 + 4 + 5, 4, 4, 6, 3};
        for (int what = 0; what < due.length; what++) {
            Checks.same("told(" + what + ")", x.told(what), due[what]);
        }
        for (int what : new int[] {-1, 10, Integer.MIN_VALUE, Integer.MAX_VALUE}) {
            Checks.same("told(" + what + ")", x.told(what), WordGroups.BAD);
        }
        Checks.remove(x, 11111);
        Checks.same("told(5) after a removal", x.told(5), 1 + 3 + 4);
        x.undo();
        Checks.weigh(x, 11111, -99);
        Checks.same("told(5) below 0", x.told(5), 1 + 3 + 4 - 99);
        x.rebuild();
        Checks.same("told(4)", x.told(4), 1);
        Checks.same("told(9)", x.told(9), 1);
    }

    private static void word() {
        WordGroups x = Checks.withWords(444444, 2, 111, 21, 1, 12);
        int[] codes = {1, 2, 12, 21, 111, 444444};
        int[] weights = {5, 2, 6, 4, 3, 1};
        Checks.type(x, 111112, 1);
        int[] matches = {6, 1, 1, 1, 3, 0};
        for (int k = 0; k < 6; k++) {
            Checks.same("word(" + k + ", 0)", x.word(k, 0), codes[k]);
            Checks.same("word(" + k + ", 1)", x.word(k, 1), weights[k]);
            Checks.same("word(" + k + ", 2)", x.word(k, 2), matches[k]);
        }
        Checks.same("word(6, 0)", x.word(6, 0), WordGroups.NONE);
        Checks.same("word(6, 2)", x.word(6, 2), WordGroups.NONE);
        Checks.same("word(highest, 0)", x.word(Integer.MAX_VALUE, 0), WordGroups.NONE);
        Checks.same("word(6, 3)", x.word(6, 3), WordGroups.BAD);
        Checks.same("word(0, 3)", x.word(0, 3), WordGroups.BAD);
        Checks.same("word(0, -1)", x.word(0, -1), WordGroups.BAD);
        Checks.same("word(-1, 0)", x.word(-1, 0), WordGroups.BAD);
        Checks.remove(x, 12);
        Checks.same("word(2, 0) after a removal", x.word(2, 0), 21);
        Checks.same("word(5, 0) after a removal", x.word(5, 0), WordGroups.NONE);
    }

    private static void group() {
        WordGroups x = Checks.withWords(1, 22, 221, 4444);
        Checks.insert(x, 223, -9);
        Checks.same("group(0, 2, 0)", x.group(0, 2, 0), 4);
        // The empty one, 1, 2, 22, 221, 4, 44, 444 and 4444.
        Checks.same("group(0, 2, 1)", x.group(0, 2, 1), 9);
        Checks.same("group(0, 2, 2)", x.group(0, 2, 2), 10);
        // 22 to 2, 221 to 1, and 44, 444, 4444 to 4, 44, 444.
        Checks.same("group(0, 2, 3)", x.group(0, 2, 3), 1 + 1 + 1 + 2 + 3);
        Checks.same("group(0, 2, 4)", x.group(0, 2, 4), 1 + 2 + 3 + 4);
        int[] ofLast = {1, 4, 3, 1, -9};
        for (int what = 0; what <= 4; what++) {
            Checks.same("group(0, 0, " + what + ")", x.group(0, 0, what), ofLast[what]);
            Checks.same("group(0, 1, " + what + ")", x.group(0, 1, what), 0);
            Checks.same("group(0, 6, " + what + ")", x.group(0, 6, what), 0);
            Checks.same("group(1, 0, " + what + ")", x.group(1, 0, what), 0);
        }
    }

    private static void groupOfRemovedItems() {
        WordGroups x = Checks.withWords(12, 123, 4, 43);
        Checks.remove(x, 123);
        Checks.remove(x, 43);
        int[] due = {2, 6, 5, 0, 2 + 4};
        for (int what = 0; what <= 4; what++) {
            Checks.same("group(1, 1, " + what + ")", x.group(1, 1, what), due[what]);
        }
        Checks.same("group(0, 2, 0), the inserted items stay", x.group(0, 2, 0), 4);
        Checks.same("group(0, 2, 2), the inserted items stay", x.group(0, 2, 2), 8);
    }

    private static void failures() {
        WordGroups x = Checks.withWords(121212, 212);
        // Nodes: 1 12 121 1212 12121 121212 2 21 212; their failures: - 2 21 212 - - - 1 12, where
        // 12121 falls to 121 (no 2121), and 121212 to 1212.
        Checks.same("nodes", x.group(0, 1, 1), 10);
        Checks.same("failures", x.group(0, 1, 3), 0 + 1 + 2 + 3 + 3 + 4 + 0 + 1 + 2);
        WordGroups v = Checks.withWords(1, 13, 3);
        Checks.same("failures of a large group", v.group(0, 1, 3), 0);
        Checks.same("failures of a small group after a large one", v.group(0, 0, 3), 0);
        for (int code : new int[] {111111, 444444}) {
            WordGroups y = Checks.withWords(code);
            Checks.same("nodes of one letter", y.group(0, 0, 1), 7);
            Checks.same("failures of one letter", y.group(0, 0, 3), 0 + 1 + 2 + 3 + 4 + 5);
        }
        // A failure is a node of the same group alone.
        WordGroups z = Checks.withWords(2, 3, 12);
        Checks.same("failures beside another group", z.group(0, 0, 3), 0);
        WordGroups w = Checks.withWords(12, 2);
        Checks.same("failures in one group", w.group(0, 1, 3), 1);
    }

    private static void item() {
        WordGroups x = Checks.withWords(333, 4, 12, 111);
        int[] codes = {4, 12, 111, 333};
        int[] weights = {2, 3, 4, 1};
        for (int k = 0; k < 4; k++) {
            Checks.same("item(0, 2, " + k + ", 0)", x.item(0, 2, k, 0), codes[k]);
            Checks.same("item(0, 2, " + k + ", 1)", x.item(0, 2, k, 1), weights[k]);
        }
        Checks.same("item(0, 2, 4, 0)", x.item(0, 2, 4, 0), WordGroups.NONE);
        Checks.same("item(0, 2, highest, 0)", x.item(0, 2, Integer.MAX_VALUE, 0), WordGroups.NONE);
        Checks.same("item(0, 0, 0, 0)", x.item(0, 0, 0, 0), WordGroups.NONE);
        Checks.same("item(1, 2, 0, 0)", x.item(1, 2, 0, 0), WordGroups.NONE);
        Checks.same("item(0, 0, 0, 2)", x.item(0, 0, 0, 2), WordGroups.BAD);
        Checks.same("item(0, 2, 0, -1)", x.item(0, 2, 0, -1), WordGroups.BAD);
        Checks.same("item(0, 2, -1, 0)", x.item(0, 2, -1, 0), WordGroups.BAD);
        Checks.same("item(0, 0, -1, 0)", x.item(0, 0, -1, 0), WordGroups.BAD);
        Checks.insert(x, 1, 5);
        Checks.same("item(0, 0, 0, 0)", x.item(0, 0, 0, 0), 1);
        Checks.same("item(0, 0, 1, 0) is not of the next group", x.item(0, 0, 1, 0), WordGroups.NONE);
        Checks.same("item(0, 2, 0, 0)", x.item(0, 2, 0, 0), 4);
    }

    private static void sameWordInSeveralItems() {
        WordGroups x = Checks.withWords(1, 2, 3, 4, 11, 12, 13);
        Checks.weigh(x, 2, -7);
        // The eighth item: the group 3 holds 2 twice, and the lower weight comes first.
        Checks.same("group(0, 3, 0)", x.group(0, 3, 0), 8);
        Checks.same("group(0, 3, 2)", x.group(0, 3, 2), 5 + 6);
        Checks.same("group(0, 3, 1)", x.group(0, 3, 1), 8);
        Checks.same("group(0, 3, 4)", x.group(0, 3, 4), 28 - 7);
        Checks.same("item(0, 3, 1, 0)", x.item(0, 3, 1, 0), 2);
        Checks.same("item(0, 3, 1, 1)", x.item(0, 3, 1, 1), -7);
        Checks.same("item(0, 3, 2, 0)", x.item(0, 3, 2, 0), 2);
        Checks.same("item(0, 3, 2, 1)", x.item(0, 3, 2, 1), 2);
        Checks.same("told(0)", x.told(0), 7);
        Checks.weigh(x, 2, 9);
        Checks.same("item(1, 1, 0, 1)", x.item(1, 1, 0, 1), -7);
        Checks.same("item(1, 1, 1, 1)", x.item(1, 1, 1, 1), 2);
    }

    private static void follow() {
        WordGroups x = Checks.withWords(1212, 2213, 22, 3, 4);
        Checks.type(x, 121, 221, 3, 4);
        int[] due = {0, 1, 12, 121, 1212, 22, 221, 2213, 0};
        for (int i = 0; i < due.length; i++) {
            Checks.same("follow(0, 2, " + i + ")", x.follow(0, 2, i), due[i]);
        }
        Checks.same("follow(0, 2, 9)", x.follow(0, 2, 9), WordGroups.NONE);
        Checks.same("follow(0, 2, highest)", x.follow(0, 2, Integer.MAX_VALUE), WordGroups.NONE);
        Checks.same("follow(0, 2, -1)", x.follow(0, 2, -1), WordGroups.BAD);
        Checks.same("follow(0, 0, 8)", x.follow(0, 0, 8), 4);
        Checks.same("follow(0, 0, 7)", x.follow(0, 0, 7), 0);
        Checks.same("follow(0, 1, 0)", x.follow(0, 1, 0), WordGroups.NONE);
        Checks.same("follow(0, 1, -1)", x.follow(0, 1, -1), WordGroups.BAD);
        Checks.remove(x, 1212);
        Checks.same("follow(1, 0, 4)", x.follow(1, 0, 4), 1212);
        Checks.same("follow(0, 2, 4), the group keeps the item", x.follow(0, 2, 4), 1212);
        x.clear();
        Checks.same("follow(0, 2, 0) without a text", x.follow(0, 2, 0), 0);
        Checks.same("follow(0, 2, 1) without a text", x.follow(0, 2, 1), WordGroups.NONE);

        for (int code : new int[] {111111, 444444}) {
            WordGroups y = Checks.withWords(code);
            Checks.type(y, code, code);
            Checks.same("follow(0, 0, 12)", y.follow(0, 0, 12), code);
        }
    }

    private static void wrongGroups() {
        WordGroups x = Checks.withWords(1);
        Checks.type(x, 1);
        int[][] wrong = {{-1, 0}, {2, 0}, {0, -1}, {0, 7}, {Integer.MAX_VALUE, 0}, {0, Integer.MIN_VALUE}};
        for (int[] pair : wrong) {
            String named = pair[0] + ", " + pair[1];
            Checks.same("group(" + named + ", 0)", x.group(pair[0], pair[1], 0), WordGroups.BAD);
            Checks.same("item(" + named + ", 0, 0)", x.item(pair[0], pair[1], 0, 0), WordGroups.BAD);
            Checks.same("follow(" + named + ", 0)", x.follow(pair[0], pair[1], 0), WordGroups.BAD);
        }
        Checks.same("group(0, 0, -1)", x.group(0, 0, -1), WordGroups.BAD);
        Checks.same("group(0, 0, 5)", x.group(0, 0, 5), WordGroups.BAD);
        Checks.same("group(0, 1, 5)", x.group(0, 1, 5), WordGroups.BAD);
        Checks.same("group(0, 6, 0)", x.group(0, 6, 0), 0);
        Checks.same("item(0, 6, 0, 0)", x.item(0, 6, 0, 0), WordGroups.NONE);
        Checks.same("follow(1, 6, 0)", x.follow(1, 6, 0), WordGroups.NONE);
    }
}
