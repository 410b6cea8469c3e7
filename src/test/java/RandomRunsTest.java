import java.util.Random;

/** All promises: random runs of 512 calls, each answer compared with the one of the plain form. */
final class RandomRunsTest {
    private static final int RUNS = 400;
    private static final int CALLS = 512;

    private final Random random;
    private final int alphabet;
    private final int longest;
    /** Whether the run is made with as many live words as there can be: it fills up, and then weighs above all. */
    private final boolean crowded;
    private int calls = 0;
    private final WordGroups x = new WordGroups();
    private final PlainWordGroups plain = new PlainWordGroups();
    private final StringBuilder told = new StringBuilder();

    private RandomRunsTest(long seed) {
        random = new Random(seed);
        crowded = seed % 3 == 0;
        alphabet = crowded ? 2 + random.nextInt(3) : 1 + random.nextInt(4);
        longest = crowded ? 4 + random.nextInt(3) : 1 + random.nextInt(6);
    }

    public static void main(String[] args) {
        for (int run = 0; run < RUNS && Checks.allHeld(); run++) {
            new RandomRunsTest(run).run();
        }
        Checks.end();
    }

    private void run() {
        while (calls < CALLS && Checks.allHeld()) {
            callOne();
        }
        if (!Checks.allHeld()) {
            System.out.println("the calls were:" + told);
        }
    }

    private void callOne() {
        if (crowded && calls < 2 * 30) {
            newWord();
            return;
        }
        int kind = random.nextInt(100);
        if (kind < 25) {
            pattern();
        } else if (kind < 33) {
            text();
        } else if (kind < 60) {
            change();
        } else if (kind < 80) {
            ofWordsAndGroups();
        } else {
            ofText();
        }
    }

    /** A number from low to high, or at times one just outside, or far. */
    private int number(int low, int high) {
        switch (random.nextInt(60)) {
            case 0: return low - 1;
            case 1: return high + 1;
            case 2: return Integer.MIN_VALUE;
            case 3: return Integer.MAX_VALUE;
            default: return low + random.nextInt(high - low + 1);
        }
    }

    private int code() {
        if (random.nextInt(30) == 0) {
            return random.nextInt(1200) - 5;
        }
        int code = 0;
        int letters = 1 + random.nextInt(longest);
        for (int k = 0; k < letters; k++) {
            code = code * 10 + 1 + random.nextInt(alphabet);
        }
        return code;
    }

    private int weight() {
        return random.nextInt(3) == 0 ? number(-2, 2) : number(-99, 99);
    }

    private void newWord() {
        int code = code();
        int weight = weight();
        same("spell(" + code + ")", x.spell(code), plain.spell(code));
        same("insert(" + weight + ")", x.insert(weight), plain.insert(weight));
    }

    private void same(String call, int got, int due) {
        calls++;
        told.append(' ').append(call);
        Checks.same(call, got, due);
    }

    private void pattern() {
        int kind = random.nextInt(20);
        if (kind == 0) {
            same("wipe()", x.wipe(), plain.wipe());
        } else if (kind < 4) {
            int letter = number(0, 3);
            same("write(" + letter + ")", x.write(letter), plain.write(letter));
        } else if (kind < (crowded ? 17 : 10) && plain.told(0) > 0) {
            int code = plain.word(random.nextInt(plain.told(0)), 0);
            same("spell(" + code + ")", x.spell(code), plain.spell(code));
        } else {
            int code = code();
            same("spell(" + code + ")", x.spell(code), plain.spell(code));
        }
    }

    private void text() {
        if (random.nextInt(40) == 0) {
            same("clear()", x.clear(), plain.clear());
        } else {
            same("type()", x.type(), plain.type());
        }
    }

    private void change() {
        int kind = random.nextInt(crowded && random.nextInt(8) > 0 ? 32 : 40);
        if (crowded && random.nextBoolean()) {
            kind = 31;
        }
        if (kind < 20) {
            int weight = weight();
            same("insert(" + weight + ")", x.insert(weight), plain.insert(weight));
        } else if (kind < 26) {
            same("remove()", x.remove(), plain.remove());
        } else if (kind < 32) {
            int weight = weight();
            same("weigh(" + weight + ")", x.weigh(weight), plain.weigh(weight));
        } else if (kind == 32) {
            same("rebuild()", x.rebuild(), plain.rebuild());
        } else if (kind < 36) {
            same("undo()", x.undo(), plain.undo());
        } else if (kind < 38) {
            int i = number(0, 1);
            same("keep(" + i + ")", x.keep(i), plain.keep(i));
        } else {
            int i = number(0, 1);
            same("back(" + i + ")", x.back(i), plain.back(i));
        }
    }

    private void ofWordsAndGroups() {
        int family = number(0, 1);
        int group = number(0, 6);
        if (random.nextInt(3) > 0) {
            family = 0;
            group = random.nextInt(6);
        }
        int k = number(0, crowded ? 31 : 12);
        int what;
        switch (random.nextInt(5)) {
            case 0:
                what = number(0, 9);
                same("told(" + what + ")", x.told(what), plain.told(what));
                break;
            case 1:
                what = number(0, 2);
                same("word(" + k + ", " + what + ")", x.word(k, what), plain.word(k, what));
                break;
            case 2:
                what = number(0, 4);
                same("group(" + family + ", " + group + ", " + what + ")", x.group(family, group, what),
                    plain.group(family, group, what));
                break;
            case 3:
                what = number(0, 1);
                same("item(" + family + ", " + group + ", " + k + ", " + what + ")", x.item(family, group, k, what),
                    plain.item(family, group, k, what));
                break;
            default:
                int i = number(0, 60);
                same("follow(" + family + ", " + group + ", " + i + ")", x.follow(family, group, i),
                    plain.follow(family, group, i));
                break;
        }
    }

    private void ofText() {
        int what;
        switch (random.nextInt(4)) {
            case 0:
                int i = number(0, Math.max(0, plain.told(7) - 1));
                what = number(0, 4);
                same("at(" + i + ", " + what + ")", x.at(i, what), plain.at(i, what));
                break;
            case 1:
                what = number(0, 5);
                same("total(" + what + ")", x.total(what), plain.total(what));
                break;
            case 2:
                int k = number(0, 20);
                int any = number(0, 1);
                same("find(" + k + ", " + any + ")", x.find(k, any), plain.find(k, any));
                break;
            default:
                calls++;
                told.append(" mean()");
                Checks.same("mean()", x.mean(), plain.mean());
                break;
        }
    }
}
