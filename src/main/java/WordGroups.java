/** A matcher for a dictionary that changes: words with weights are inserted and removed, and found in a text. */
public final class WordGroups {
    public static final int BAD = -1, STATE = -2, FULL = -3, NONE = -9999;

    private static final int ALPHABET = 4;
    private static final int WORD_LETTERS = 6;
    private static final int TEXT_LETTERS = 60;
    private static final int LIVE_WORDS = 24;
    private static final int TOP_WEIGHT = 99;
    private static final int FAMILIES = 2;
    private static final int GROUPS = 7;
    private static final int STATES = 8;
    private static final int IMAGES = 2;

    /** The place of the first letter in the code of a longest word. */
    private static final int TOP_PLACE = 100000;
    private static final int GREATEST_CODE = 444444;

    /**
     * Removed items are at most half of the inserted ones, and the rest of these are live,
     * so that a family never has more items than this.
     */
    private static final int ITEMS = 2 * LIVE_WORDS;

    private final Text text;
    private final Dictionary present;
    private final History history;
    private final Dictionary[] images;
    private final Nodes nodes;

    /** The code of the pattern, 0 if it is empty. */
    private int pattern;

    public WordGroups() {
        text = new Text();
        present = new Dictionary();
        history = new History();
        images = new Dictionary[IMAGES];
        nodes = new Nodes();
        pattern = 0;
    }

    public int write(int letter) {
        if (letter < 0 || letter >= ALPHABET) {
            return BAD;
        }
        if (lettersOf(pattern) >= WORD_LETTERS) {
            return FULL;
        }
        pattern = pattern * 10 + letter + 1;
        return lettersOf(pattern);
    }

    public int wipe() {
        int had = lettersOf(pattern);
        pattern = 0;
        return had;
    }

    public int spell(int code) {
        if (!isWord(code)) {
            return BAD;
        }
        pattern = code;
        return lettersOf(pattern);
    }

    public int type() {
        if (pattern == 0) {
            return STATE;
        }
        if (text.length() + lettersOf(pattern) > TEXT_LETTERS) {
            return FULL;
        }
        text.append(pattern);
        return text.length();
    }

    public int clear() {
        int had = text.length();
        text.makeEmpty();
        return had;
    }

    public int insert(int weight) {
        if (!isWeight(weight)) {
            return BAD;
        }
        if (pattern == 0 || present.live().indexOf(pattern) >= 0) {
            return STATE;
        }
        if (present.live().size() >= LIVE_WORDS) {
            return FULL;
        }
        history.record(present);
        return present.enter(pattern, weight);
    }

    public int remove() {
        int index = present.live().indexOf(pattern);
        if (index < 0) {
            return STATE;
        }
        history.record(present);
        return present.drop(index);
    }

    public int weigh(int weight) {
        if (!isWeight(weight)) {
            return BAD;
        }
        int index = present.live().indexOf(pattern);
        if (index < 0) {
            return STATE;
        }
        int previous = present.live().weightAt(index);
        history.record(present);
        present.drop(index);
        present.enter(pattern, weight);
        return 100 + previous;
    }

    public int rebuild() {
        history.record(present);
        return present.renew();
    }

    public int undo() {
        if (history.size() == 0) {
            return STATE;
        }
        history.restore(present);
        return history.size();
    }

    public int told(int what) {
        switch (what) {
            case 0: return present.live().size();
            case 1: return present.family(0).size();
            case 2: return present.family(1).size();
            case 3: return present.costs();
            case 4: return present.rebuildings();
            case 5: return present.live().weightsIn(0);
            case 6: return lettersOf(pattern);
            case 7: return text.length();
            case 8: return history.size();
            case 9: return present.family(0).groupsInUse() + present.family(1).groupsInUse();
            default: return BAD;
        }
    }

    public int word(int k, int what) {
        if (k < 0 || what < 0 || what > 2) {
            return BAD;
        }
        Items live = present.live();
        if (k >= live.size()) {
            return NONE;
        }
        switch (what) {
            case 0: return live.codeAt(k);
            case 1: return live.weightAt(k);
            default: return text.occurrences(live.codeAt(k));
        }
    }

    public int group(int family, int group, int what) {
        if (!isGroup(family, group) || what < 0 || what > 4) {
            return BAD;
        }
        Items items = present.family(family);
        switch (what) {
            case 0: return items.sizeOf(group);
            case 2: return items.lettersIn(group);
            case 4: return items.weightsIn(group);
            default: break;
        }
        nodes.read(items, group);
        return what == 1 ? nodes.size() : nodes.failureLetters();
    }

    public int item(int family, int group, int k, int what) {
        if (!isGroup(family, group) || k < 0 || what < 0 || what > 1) {
            return BAD;
        }
        Items items = present.family(family);
        if (k >= items.sizeOf(group)) {
            return NONE;
        }
        int index = items.startOf(group) + k;
        return what == 0 ? items.codeAt(index) : items.weightAt(index);
    }

    public int follow(int family, int group, int i) {
        if (!isGroup(family, group) || i < 0) {
            return BAD;
        }
        Items items = present.family(family);
        if (items.sizeOf(group) == 0 || i > text.length()) {
            return NONE;
        }
        nodes.read(items, group);
        for (int length = Math.min(i, WORD_LETTERS); length > 0; length--) {
            int end = text.ending(i, length);
            if (nodes.has(end)) {
                return end;
            }
        }
        return 0;
    }

    public int at(int i, int what) {
        if (i < 0 || i >= text.length()) {
            return BAD;
        }
        Items live = present.live();
        switch (what) {
            case 0: return text.letterAt(i);
            case 1: return text.matchesAt(i, live);
            case 2: return text.weightAt(i, live);
            case 3: return text.longestCodeAt(i, live);
            case 4: return text.covers(i, live) ? 1 : 0;
            default: return BAD;
        }
    }

    public int total(int what) {
        Items live = present.live();
        switch (what) {
            case 0: return text.matches(live);
            case 1: return text.weightOfMatches(live);
            case 2: return text.coveredLetters(live);
            case 3: return text.heaviestPosition(live);
            case 4: return text.divisionWeight(live);
            case 5: return text.divisionMatches(live);
            default: return BAD;
        }
    }

    public int find(int k, int any) {
        if (k < 0 || any < 0 || any > 1) {
            return BAD;
        }
        if (any == 0 && pattern == 0) {
            return STATE;
        }
        Items live = present.live();
        int before = 0;
        for (int i = 0; i < text.length(); i++) {
            boolean ends = any == 0 ? text.hasEnding(i, pattern) : text.matchesAt(i, live) > 0;
            if (ends && before == k) {
                return i;
            }
            if (ends) {
                before++;
            }
        }
        return NONE;
    }

    public float mean() {
        int matches = text.matches(present.live());
        if (matches == 0) {
            return 0.0f;
        }
        return (float) text.weightOfMatches(present.live()) / (float) matches;
    }

    public int keep(int i) {
        if (i < 0 || i >= IMAGES) {
            return BAD;
        }
        Dictionary image = images[i];
        if (image == null) {
            image = new Dictionary();
            images[i] = image;
        }
        image.copy(present);
        return present.live().size();
    }

    public int back(int i) {
        if (i < 0 || i >= IMAGES) {
            return BAD;
        }
        Dictionary image = images[i];
        if (image == null) {
            return STATE;
        }
        history.record(present);
        present.copy(image);
        return present.live().size();
    }

    private static boolean isWeight(int weight) {
        return weight >= -TOP_WEIGHT && weight <= TOP_WEIGHT;
    }

    private static boolean isGroup(int family, int group) {
        return family >= 0 && family < FAMILIES && group >= 0 && group < GROUPS;
    }

    private static boolean isWord(int code) {
        if (code < 1 || code > GREATEST_CODE) {
            return false;
        }
        for (int rest = code; rest > 0; rest /= 10) {
            if (rest % 10 < 1 || rest % 10 > ALPHABET) {
                return false;
            }
        }
        return true;
    }

    private static int lettersOf(int code) {
        int letters = 0;
        for (int rest = code; rest > 0; rest /= 10) {
            letters++;
        }
        return letters;
    }

    /**
     * Words with weights and numbers of groups, in ascending order of the groups, then of the codes,
     * then of the weights. The live words are such a list too; each of them has the group 0 there.
     */
    private static final class Items {
        private final int[] groups;
        private final int[] codes;
        private final int[] weights;
        private int size;

        Items() {
            groups = new int[ITEMS];
            codes = new int[ITEMS];
            weights = new int[ITEMS];
            size = 0;
        }

        int size() {
            return size;
        }

        int codeAt(int index) {
            return index >= 0 && index < size ? codes[index] : 0;
        }

        int weightAt(int index) {
            return index >= 0 && index < size ? weights[index] : 0;
        }

        /** The first index of a word, or -1; for the live words alone, as it relies on their order. */
        int indexOf(int code) {
            for (int k = 0; k < size && codes[k] <= code; k++) {
                if (codes[k] == code) {
                    return k;
                }
            }
            return -1;
        }

        /** The number of items in lower groups, which stand before the group. */
        int startOf(int group) {
            int start = 0;
            for (int k = 0; k < size && groups[k] < group; k++) {
                start++;
            }
            return start;
        }

        int sizeOf(int group) {
            return startOf(group + 1) - startOf(group);
        }

        int lettersIn(int group) {
            int letters = 0;
            for (int k = 0; k < size; k++) {
                if (groups[k] == group) {
                    letters += lettersOf(codes[k]);
                }
            }
            return letters;
        }

        int weightsIn(int group) {
            int sum = 0;
            for (int k = 0; k < size; k++) {
                if (groups[k] == group) {
                    sum += weights[k];
                }
            }
            return sum;
        }

        int groupsInUse() {
            int used = 0;
            for (int group = 0; group < GROUPS; group++) {
                if (sizeOf(group) > 0) {
                    used++;
                }
            }
            return used;
        }

        void makeEmpty() {
            size = 0;
        }

        void copy(Items other) {
            size = other.size;
            for (int k = 0; k < size; k++) {
                groups[k] = other.groups[k];
                codes[k] = other.codes[k];
                weights[k] = other.weights[k];
            }
        }

        void add(int group, int code, int weight) {
            if (size >= ITEMS) {
                return;
            }
            groups[size] = group;
            codes[size] = code;
            weights[size] = weight;
            size++;
            moveDown(size - 1);
        }

        void takeOut(int index) {
            if (index < 0 || index >= size) {
                return;
            }
            for (int k = index; k + 1 < size; k++) {
                swap(k, k + 1);
            }
            size--;
        }

        /** Puts an item into a family, as the document says, and returns its group. */
        int put(int code, int weight) {
            int group = leastEmptyGroup();
            for (int k = 0; k < size; k++) {
                if (groups[k] < group) {
                    groups[k] = group;
                    moveDown(k);
                }
            }
            add(group, code, weight);
            return group;
        }

        private int leastEmptyGroup() {
            for (int group = 0; group < GROUPS; group++) {
                if (sizeOf(group) == 0) {
                    return group;
                }
            }
            return GROUPS - 1;
        }

        /** Moves an item to its place among the items before it, which are in order. */
        private void moveDown(int index) {
            for (int k = index; k > 0 && k < size && isLess(k, k - 1); k--) {
                swap(k, k - 1);
            }
        }

        private boolean isLess(int a, int b) {
            if (groups[a] != groups[b]) {
                return groups[a] < groups[b];
            }
            if (codes[a] != codes[b]) {
                return codes[a] < codes[b];
            }
            return weights[a] < weights[b];
        }

        private void swap(int a, int b) {
            int group = groups[a];
            int code = codes[a];
            int weight = weights[a];
            groups[a] = groups[b];
            codes[a] = codes[b];
            weights[a] = weights[b];
            groups[b] = group;
            codes[b] = code;
            weights[b] = weight;
        }
    }

    /** What a state holds: the live words, the groups, the costs and the rebuildings. */
    private static final class Dictionary {
        private final Items live;
        private final Items inserted;
        private final Items removed;
        private int costs;
        private int rebuildings;

        Dictionary() {
            live = new Items();
            inserted = new Items();
            removed = new Items();
            costs = 0;
            rebuildings = 0;
        }

        Items live() {
            return live;
        }

        Items family(int family) {
            return family == 0 ? inserted : removed;
        }

        int costs() {
            return costs;
        }

        int rebuildings() {
            return rebuildings;
        }

        void copy(Dictionary other) {
            live.copy(other.live);
            inserted.copy(other.inserted);
            removed.copy(other.removed);
            costs = other.costs;
            rebuildings = other.rebuildings;
        }

        /** Makes a word live and returns the group into which it comes. */
        int enter(int code, int weight) {
            live.add(0, code, weight);
            int group = inserted.put(code, weight);
            costs += inserted.lettersIn(group);
            return group;
        }

        /** Takes a live word away and returns what remove() tells of it. */
        int drop(int index) {
            int group = removed.put(live.codeAt(index), live.weightAt(index));
            costs += removed.lettersIn(group);
            live.takeOut(index);
            if (2 * removed.size() <= inserted.size()) {
                return group;
            }
            renew();
            return live.size() == 0 ? 20 : 10 + leastGroupFor(live.size());
        }

        /** Rebuilds everything and returns the cost. */
        int renew() {
            inserted.makeEmpty();
            removed.makeEmpty();
            int group = leastGroupFor(live.size());
            for (int k = 0; k < live.size(); k++) {
                inserted.add(group, live.codeAt(k), live.weightAt(k));
            }
            int cost = inserted.lettersIn(group);
            costs += cost;
            rebuildings++;
            return cost;
        }

        private static int leastGroupFor(int items) {
            int group = 0;
            while (group < GROUPS - 1 && 1 << group < items) {
                group++;
            }
            return group;
        }
    }

    /** The states before the latest changes, in a ring, so that the oldest one is dropped by being overwritten. */
    private static final class History {
        private final Dictionary[] states;
        private int next;
        private int size;

        History() {
            states = new Dictionary[STATES];
            next = 0;
            size = 0;
        }

        int size() {
            return size;
        }

        void record(Dictionary present) {
            Dictionary state = states[next];
            if (state == null) {
                state = new Dictionary();
                states[next] = state;
            }
            state.copy(present);
            next = next + 1 < STATES ? next + 1 : 0;
            size = Math.min(size + 1, STATES);
        }

        void restore(Dictionary present) {
            if (size == 0) {
                return;
            }
            next = next > 0 ? next - 1 : STATES - 1;
            size--;
            Dictionary state = states[next];
            if (state != null) {
                present.copy(state);
            }
        }
    }

    /** The nodes of the automaton of one group, known by their codes. */
    private static final class Nodes {
        /** The number of words, the empty one included. */
        private static final int WORDS = 5461;

        /** At the number of a word: the latest reading in which it was a node. */
        private final int[] readingOf;
        private final int[] codes;
        private int reading;
        private int size;

        Nodes() {
            readingOf = new int[WORDS];
            codes = new int[ITEMS * WORD_LETTERS + 1];
            reading = 0;
            size = 0;
        }

        int size() {
            return size;
        }

        void read(Items items, int group) {
            reading++;
            size = 0;
            int start = items.startOf(group);
            int end = items.startOf(group + 1);
            if (start < end) {
                add(0);
            }
            for (int k = start; k < end; k++) {
                addBeginnings(items.codeAt(k));
            }
        }

        boolean has(int code) {
            int number = numberOf(code);
            return number >= 0 && number < WORDS && readingOf[number] == reading;
        }

        /** The sum of the lengths of the failures. */
        int failureLetters() {
            int letters = 0;
            for (int k = 0; k < size; k++) {
                letters += lettersOf(failureOf(codes[k]));
            }
            return letters;
        }

        private int failureOf(int code) {
            for (int place = TOP_PLACE; place > 1; place /= 10) {
                if (place <= code && has(code % place)) {
                    return code % place;
                }
            }
            return 0;
        }

        /** Stops at a node that is known, as its beginnings are known too. */
        private void addBeginnings(int code) {
            for (int beginning = code; beginning > 0 && !has(beginning); beginning /= 10) {
                add(beginning);
            }
        }

        private void add(int code) {
            int number = numberOf(code);
            if (number < 0 || number >= WORDS || size >= codes.length) {
                return;
            }
            readingOf[number] = reading;
            codes[size] = code;
            size++;
        }

        /** Numbers the words in their order without gaps, from 0 for the empty one. */
        private static int numberOf(int code) {
            int number = 0;
            int place = 1;
            for (int rest = code; rest > 0; rest /= 10) {
                number += rest % 10 * place;
                place *= ALPHABET;
            }
            return number;
        }
    }

    /** The text, and what is found in it of a list of live words. */
    private static final class Text {
        private final int[] letters;
        private int length;

        /** For each number of first letters: the greatest weight of a division, and its least number of matches. */
        private final int[] bestWeights;
        private final int[] fewestMatches;

        Text() {
            letters = new int[TEXT_LETTERS];
            length = 0;
            bestWeights = new int[TEXT_LETTERS + 1];
            fewestMatches = new int[TEXT_LETTERS + 1];
        }

        int length() {
            return length;
        }

        void makeEmpty() {
            length = 0;
        }

        void append(int code) {
            for (int place = TOP_PLACE; place > 0; place /= 10) {
                if (place <= code && length < TEXT_LETTERS) {
                    letters[length] = code / place % 10 - 1;
                    length++;
                }
            }
        }

        int letterAt(int i) {
            return i >= 0 && i < length ? letters[i] : 0;
        }

        /** The code of the last letters of the beginning that is read; 0 if it has not so many. */
        int ending(int read, int count) {
            if (count > read) {
                return 0;
            }
            int code = 0;
            for (int i = read - count; i < read; i++) {
                code = code * 10 + letterAt(i) + 1;
            }
            return code;
        }

        boolean hasEnding(int i, int code) {
            return ending(i + 1, lettersOf(code)) == code;
        }

        int occurrences(int code) {
            int count = 0;
            for (int i = 0; i < length; i++) {
                if (hasEnding(i, code)) {
                    count++;
                }
            }
            return count;
        }

        int matchesAt(int i, Items live) {
            int matches = 0;
            for (int count = 1; count <= WORD_LETTERS; count++) {
                if (matchAt(i, count, live) >= 0) {
                    matches++;
                }
            }
            return matches;
        }

        int weightAt(int i, Items live) {
            int sum = 0;
            for (int count = 1; count <= WORD_LETTERS; count++) {
                int match = matchAt(i, count, live);
                if (match >= 0) {
                    sum += live.weightAt(match);
                }
            }
            return sum;
        }

        int longestCodeAt(int i, Items live) {
            int longest = longestAt(i, live);
            return longest == 0 ? NONE : ending(i + 1, longest);
        }

        boolean covers(int i, Items live) {
            for (int end = i; end < i + WORD_LETTERS && end < length; end++) {
                if (longestAt(end, live) > end - i) {
                    return true;
                }
            }
            return false;
        }

        int matches(Items live) {
            int count = 0;
            for (int i = 0; i < length; i++) {
                count += matchesAt(i, live);
            }
            return count;
        }

        int weightOfMatches(Items live) {
            int sum = 0;
            for (int i = 0; i < length; i++) {
                sum += weightAt(i, live);
            }
            return sum;
        }

        int coveredLetters(Items live) {
            int covered = 0;
            int ahead = 0;
            for (int i = length - 1; i >= 0; i--) {
                ahead = Math.max(ahead - 1, longestAt(i, live));
                if (ahead > 0) {
                    covered++;
                }
            }
            return covered;
        }

        int heaviestPosition(Items live) {
            int best = NONE;
            int bestWeight = 0;
            for (int i = 0; i < length; i++) {
                int weight = weightAt(i, live);
                if (best == NONE || weight > bestWeight) {
                    best = i;
                    bestWeight = weight;
                }
            }
            return best;
        }

        int divisionWeight(Items live) {
            divide(live);
            return bestWeights[length];
        }

        int divisionMatches(Items live) {
            divide(live);
            return fewestMatches[length];
        }

        private void divide(Items live) {
            bestWeights[0] = 0;
            fewestMatches[0] = 0;
            for (int read = 1; read <= length; read++) {
                bestWeights[read] = bestWeights[read - 1];
                fewestMatches[read] = fewestMatches[read - 1];
                for (int count = 1; count <= WORD_LETTERS && count <= read; count++) {
                    int match = matchAt(read - 1, count, live);
                    if (match >= 0) {
                        offer(read, bestWeights[read - count] + live.weightAt(match), fewestMatches[read - count] + 1);
                    }
                }
            }
        }

        private void offer(int read, int weight, int matches) {
            boolean better = weight > bestWeights[read];
            boolean shorter = weight == bestWeights[read] && matches < fewestMatches[read];
            if (better || shorter) {
                bestWeights[read] = weight;
                fewestMatches[read] = matches;
            }
        }

        /** The number of letters of the longest match that ends at a position, 0 if there is none. */
        private int longestAt(int i, Items live) {
            for (int count = WORD_LETTERS; count > 0; count--) {
                if (matchAt(i, count, live) >= 0) {
                    return count;
                }
            }
            return 0;
        }

        /** The index of the live word of so many letters that ends at a position, or -1. */
        private int matchAt(int i, int count, Items live) {
            return live.indexOf(ending(i + 1, count));
        }
    }
}
