import java.util.ArrayList;
import java.util.HashSet;
import java.util.List;
import java.util.Set;
import java.util.TreeMap;

/**
 * The document in its plainest form, with texts and the Java library: words and the text are
 * strings of the digits of codes, and everything is searched for anew in each call.
 */
final class PlainWordGroups {
    private static final int BAD = -1, STATE = -2, FULL = -3, NONE = -9999;

    private static final class Item {
        private final String word;
        private final int weight;

        Item(String word, int weight) {
            this.word = word;
            this.weight = weight;
        }
    }

    private static final class State {
        private final TreeMap<Integer, Integer> live = new TreeMap<>();
        private final List<List<List<Item>>> families = new ArrayList<>();
        private int costs = 0;
        private int rebuildings = 0;

        State() {
            for (int family = 0; family < 2; family++) {
                families.add(emptyFamily());
            }
        }

        State(State other) {
            live.putAll(other.live);
            for (List<List<Item>> family : other.families) {
                List<List<Item>> copy = new ArrayList<>();
                for (List<Item> group : family) {
                    copy.add(new ArrayList<>(group));
                }
                families.add(copy);
            }
            costs = other.costs;
            rebuildings = other.rebuildings;
        }

        private static List<List<Item>> emptyFamily() {
            List<List<Item>> groups = new ArrayList<>();
            for (int group = 0; group < 7; group++) {
                groups.add(new ArrayList<>());
            }
            return groups;
        }

        int items(int family) {
            int count = 0;
            for (List<Item> group : families.get(family)) {
                count += group.size();
            }
            return count;
        }

        int put(int family, Item item) {
            List<List<Item>> groups = families.get(family);
            int target = 0;
            while (!groups.get(target).isEmpty()) {
                target++;
            }
            for (int lower = 0; lower < target; lower++) {
                groups.get(target).addAll(groups.get(lower));
                groups.get(lower).clear();
            }
            groups.get(target).add(item);
            costs += letters(groups.get(target));
            return target;
        }

        int rebuild() {
            families.set(0, emptyFamily());
            families.set(1, emptyFamily());
            rebuildings++;
            if (live.isEmpty()) {
                return 0;
            }
            List<Item> group = families.get(0).get(groupOfLive());
            for (int code : live.keySet()) {
                group.add(new Item("" + code, live.get(code)));
            }
            costs += letters(group);
            return letters(group);
        }

        int groupOfLive() {
            int i = 0;
            while (Math.pow(2, i) < live.size()) {
                i++;
            }
            return i;
        }

        int remove(int code) {
            int weight = live.remove(code);
            int group = put(1, new Item("" + code, weight));
            if (items(1) * 2 <= items(0)) {
                return group;
            }
            rebuild();
            return live.isEmpty() ? 20 : 10 + groupOfLive();
        }
    }

    private String pattern = "";
    private String text = "";
    private State state = new State();
    private final List<State> history = new ArrayList<>();
    private final State[] images = new State[2];

    private static int letters(List<Item> items) {
        int sum = 0;
        for (Item item : items) {
            sum += item.word.length();
        }
        return sum;
    }

    private boolean isLive() {
        return !pattern.isEmpty() && state.live.containsKey(Integer.valueOf(pattern));
    }

    private void record() {
        history.add(new State(state));
        if (history.size() > 8) {
            history.remove(0);
        }
    }

    int write(int letter) {
        if (letter < 0 || letter > 3) {
            return BAD;
        }
        if (pattern.length() == 6) {
            return FULL;
        }
        pattern += letter + 1;
        return pattern.length();
    }

    int wipe() {
        int length = pattern.length();
        pattern = "";
        return length;
    }

    int spell(int code) {
        if (!("" + code).matches("[1-4]{1,6}")) {
            return BAD;
        }
        pattern = "" + code;
        return pattern.length();
    }

    int type() {
        if (pattern.isEmpty()) {
            return STATE;
        }
        if ((text + pattern).length() > 60) {
            return FULL;
        }
        text += pattern;
        return text.length();
    }

    int clear() {
        int length = text.length();
        text = "";
        return length;
    }

    int insert(int weight) {
        if (weight < -99 || weight > 99) {
            return BAD;
        }
        if (pattern.isEmpty() || isLive()) {
            return STATE;
        }
        if (state.live.size() == 24) {
            return FULL;
        }
        record();
        state.live.put(Integer.valueOf(pattern), weight);
        return state.put(0, new Item(pattern, weight));
    }

    int remove() {
        if (!isLive()) {
            return STATE;
        }
        record();
        return state.remove(Integer.parseInt(pattern));
    }

    int weigh(int weight) {
        if (weight < -99 || weight > 99) {
            return BAD;
        }
        if (!isLive()) {
            return STATE;
        }
        record();
        int code = Integer.parseInt(pattern);
        int previous = state.live.get(code);
        state.remove(code);
        state.live.put(code, weight);
        state.put(0, new Item(pattern, weight));
        return 100 + previous;
    }

    int rebuild() {
        record();
        return state.rebuild();
    }

    int undo() {
        if (history.isEmpty()) {
            return STATE;
        }
        state = history.remove(history.size() - 1);
        return history.size();
    }

    int told(int what) {
        switch (what) {
            case 0: return state.live.size();
            case 1: return state.items(0);
            case 2: return state.items(1);
            case 3: return state.costs;
            case 4: return state.rebuildings;
            case 5: return state.live.values().stream().mapToInt(weight -> weight).sum();
            case 6: return pattern.length();
            case 7: return text.length();
            case 8: return history.size();
            case 9: return (int) state.families.stream().flatMap(List::stream).filter(g -> !g.isEmpty()).count();
            default: return BAD;
        }
    }

    int word(int k, int what) {
        if (k < 0 || what < 0 || what > 2) {
            return BAD;
        }
        if (k >= state.live.size()) {
            return NONE;
        }
        int code = new ArrayList<>(state.live.keySet()).get(k);
        return what == 0 ? code : what == 1 ? state.live.get(code) : ends("" + code).size();
    }

    private static boolean isGroup(int family, int group) {
        return (family == 0 || family == 1) && group >= 0 && group <= 6;
    }

    private static Set<String> nodes(List<Item> items) {
        Set<String> nodes = new HashSet<>();
        for (Item item : items) {
            for (int length = 0; length <= item.word.length(); length++) {
                nodes.add(item.word.substring(0, length));
            }
        }
        return nodes;
    }

    private static int failureLength(String node, Set<String> nodes) {
        int from = 1;
        while (!nodes.contains(node.substring(from))) {
            from++;
        }
        return node.length() - from;
    }

    int group(int family, int group, int what) {
        if (!isGroup(family, group) || what < 0 || what > 4) {
            return BAD;
        }
        List<Item> items = state.families.get(family).get(group);
        Set<String> nodes = nodes(items);
        switch (what) {
            case 0: return items.size();
            case 1: return nodes.size();
            case 2: return letters(items);
            case 3: return nodes.stream().filter(n -> !n.isEmpty()).mapToInt(n -> failureLength(n, nodes)).sum();
            default: return items.stream().mapToInt(item -> item.weight).sum();
        }
    }

    int item(int family, int group, int k, int what) {
        if (!isGroup(family, group) || k < 0 || what < 0 || what > 1) {
            return BAD;
        }
        List<Item> items = new ArrayList<>(state.families.get(family).get(group));
        items.sort((a, b) -> a.word.equals(b.word) ? a.weight - b.weight
            : Integer.parseInt(a.word) - Integer.parseInt(b.word));
        if (k >= items.size()) {
            return NONE;
        }
        return what == 0 ? Integer.parseInt(items.get(k).word) : items.get(k).weight;
    }

    int follow(int family, int group, int i) {
        if (!isGroup(family, group) || i < 0) {
            return BAD;
        }
        Set<String> nodes = nodes(state.families.get(family).get(group));
        if (nodes.isEmpty() || i > text.length()) {
            return NONE;
        }
        int from = 0;
        while (!nodes.contains(text.substring(from, i))) {
            from++;
        }
        return from == i ? 0 : Integer.parseInt(text.substring(from, i));
    }

    /** The positions at which a word ends. */
    private List<Integer> ends(String word) {
        List<Integer> ends = new ArrayList<>();
        for (int from = 0; from + word.length() <= text.length(); from++) {
            if (text.startsWith(word, from)) {
                ends.add(from + word.length() - 1);
            }
        }
        return ends;
    }

    /** The codes of the words whose matches end at a position, in ascending order. */
    private List<Integer> matchesAt(int i) {
        List<Integer> codes = new ArrayList<>();
        for (int code : state.live.keySet()) {
            if (text.substring(0, i + 1).endsWith("" + code)) {
                codes.add(code);
            }
        }
        return codes;
    }

    private int weightAt(int i) {
        int sum = 0;
        for (int code : matchesAt(i)) {
            sum += state.live.get(code);
        }
        return sum;
    }

    private boolean isCovered(int i) {
        for (int code : state.live.keySet()) {
            for (int end : ends("" + code)) {
                if (end >= i && end - ("" + code).length() < i) {
                    return true;
                }
            }
        }
        return false;
    }

    int at(int i, int what) {
        if (i < 0 || i >= text.length() || what < 0 || what > 4) {
            return BAD;
        }
        List<Integer> codes = matchesAt(i);
        switch (what) {
            case 0: return text.charAt(i) - '1';
            case 1: return codes.size();
            case 2: return weightAt(i);
            case 3: return codes.isEmpty() ? NONE : codes.get(codes.size() - 1);
            default: return isCovered(i) ? 1 : 0;
        }
    }

    /** From a position on: the greatest weight of a division and, negated, its least number of matches. */
    private int[] division(int from, int[][] known) {
        if (from == text.length()) {
            return new int[] {0, 0};
        }
        if (known[from] != null) {
            return known[from];
        }
        int[] best = division(from + 1, known);
        for (int code : state.live.keySet()) {
            if (text.startsWith("" + code, from)) {
                int[] rest = division(from + ("" + code).length(), known);
                int weight = rest[0] + state.live.get(code);
                if (weight > best[0] || weight == best[0] && rest[1] - 1 > best[1]) {
                    best = new int[] {weight, rest[1] - 1};
                }
            }
        }
        known[from] = best;
        return best;
    }

    int total(int what) {
        if (what < 0 || what > 5) {
            return BAD;
        }
        int matches = 0;
        int weight = 0;
        int covered = 0;
        int heaviest = NONE;
        for (int i = 0; i < text.length(); i++) {
            matches += matchesAt(i).size();
            weight += weightAt(i);
            covered += isCovered(i) ? 1 : 0;
            if (heaviest == NONE || weightAt(i) > weightAt(heaviest)) {
                heaviest = i;
            }
        }
        int[] division = division(0, new int[60][]);
        return new int[] {matches, weight, covered, heaviest, division[0], -division[1]}[what];
    }

    int find(int k, int any) {
        if (k < 0 || any < 0 || any > 1) {
            return BAD;
        }
        if (any == 0 && pattern.isEmpty()) {
            return STATE;
        }
        List<Integer> positions = new ArrayList<>();
        if (any == 0) {
            positions = ends(pattern);
        }
        for (int i = 0; any == 1 && i < text.length(); i++) {
            if (!matchesAt(i).isEmpty()) {
                positions.add(i);
            }
        }
        return k < positions.size() ? positions.get(k) : NONE;
    }

    float mean() {
        return total(0) == 0 ? 0.0f : (float) total(1) / (float) total(0);
    }

    int keep(int i) {
        if (i < 0 || i > 1) {
            return BAD;
        }
        images[i] = new State(state);
        return state.live.size();
    }

    int back(int i) {
        if (i < 0 || i > 1) {
            return BAD;
        }
        if (images[i] == null) {
            return STATE;
        }
        record();
        state = new State(images[i]);
        return state.live.size();
    }
}
