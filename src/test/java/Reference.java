import java.util.ArrayDeque;
import java.util.ArrayList;
import java.util.BitSet;
import java.util.HashMap;
import java.util.List;
import java.util.Map;

/**
 * The document's terms again by other means: a recursive parser, Thompson's machine with empty moves,
 * sets of its states in hash maps. Slow and plain; only the tests use it.
 */
final class Reference {
    private static final int MOST_LETTERS = 8;
    private static final int MOST_NESTED = 8;

    private final String text;
    private int at = 0;
    private int letters = 0;
    private final List<int[]> moves = new ArrayList<>(); // from, letter (-1: empty), to
    private int states = 0;
    private int start;
    private int end;

    private Reference(String text) {
        this.text = text;
    }

    /** Null when the text is wrong. */
    static Reference of(String text) {
        Reference made = new Reference(text);
        int[] ends = made.sum(0);
        if (ends == null || made.at < text.length() || made.letters > MOST_LETTERS) {
            return null;
        }
        made.start = ends[0];
        made.end = ends[1];
        return made;
    }

    /**
     * By the definition: the first byte with which no end makes the text right. If any end does, one of
     * these does: at most one atom that is no letter, then closing brackets.
     */
    static int place(String text) {
        if (of(text) != null) {
            return -1;
        }
        for (int i = 0; i < text.length(); i++) {
            if (!hasRightEnd(text.substring(0, i + 1))) {
                return i;
            }
        }
        return text.length();
    }

    static boolean hasRightEnd(String begin) {
        for (int closing = 0; closing <= MOST_NESTED; closing++) {
            String brackets = ")".repeat(closing);
            if (of(begin + brackets) != null || of(begin + "1" + brackets) != null) {
                return true;
            }
        }
        return false;
    }

    /** Every word is less than none (null). */
    static boolean isLess(String one, String other) {
        if (one == null || other == null) {
            return one != null;
        }
        return one.length() != other.length() ? one.length() < other.length() : one.compareTo(other) < 0;
    }

    int letters() {
        return letters;
    }

    /** The same with all words backwards: every move the other way. */
    Reference turned() {
        Reference made = new Reference(text);
        for (int[] move : moves) {
            made.move(move[2], move[1], move[0]);
        }
        made.start = end;
        made.end = start;
        made.letters = letters;
        return made;
    }

    private boolean sees(String signs) {
        return at < text.length() && signs.indexOf(text.charAt(at)) >= 0;
    }

    private int[] sum(int nested) {
        int[] whole = {states++, states++};
        do {
            int[] row = row(nested);
            if (row == null) {
                return null;
            }
            move(whole[0], -1, row[0]);
            move(row[1], -1, whole[1]);
        } while (sees("|") && at++ >= 0);
        return whole;
    }

    private int[] row(int nested) {
        int[] whole = factor(nested);
        while (whole != null && sees("abcd01(")) {
            int[] next = factor(nested);
            if (next == null) {
                return null;
            }
            move(whole[1], -1, next[0]);
            whole = new int[] {whole[0], next[1]};
        }
        return whole;
    }

    private int[] factor(int nested) {
        int[] inner = atom(nested);
        while (inner != null && sees("*+?")) {
            char sign = text.charAt(at++);
            int[] outer = {states++, states++};
            move(outer[0], -1, inner[0]);
            move(inner[1], -1, outer[1]);
            if (sign != '+') {
                move(outer[0], -1, outer[1]);
            }
            if (sign != '?') {
                move(inner[1], -1, inner[0]);
            }
            inner = outer;
        }
        return inner;
    }

    private int[] atom(int nested) {
        if (!sees("abcd01(")) {
            return null;
        }
        char sign = text.charAt(at++);
        if (sign == '(') {
            int[] inner = nested >= MOST_NESTED ? null : sum(nested + 1);
            return inner != null && sees(")") && at++ >= 0 ? inner : null;
        }
        int[] ends = {states++, states++};
        if (sign == '1') {
            move(ends[0], -1, ends[1]);
        } else if (sign != '0') {
            letters++;
            move(ends[0], sign - 'a', ends[1]);
        }
        return ends;
    }

    private void move(int from, int letter, int to) {
        moves.add(new int[] {from, letter, to});
    }

    private BitSet closed(BitSet set) {
        int before;
        do {
            before = set.cardinality();
            for (int[] move : moves) {
                if (move[1] < 0 && set.get(move[0])) {
                    set.set(move[2]);
                }
            }
        } while (set.cardinality() > before);
        return set;
    }

    private BitSet begin() {
        BitSet set = new BitSet();
        set.set(start);
        return closed(set);
    }

    private BitSet step(BitSet set, int letter) {
        BitSet next = new BitSet();
        for (int[] move : moves) {
            if (move[1] == letter && set.get(move[0])) {
                next.set(move[2]);
            }
        }
        return closed(next);
    }

    boolean has(String word) {
        BitSet set = begin();
        for (int i = 0; i < word.length(); i++) {
            set = step(set, word.charAt(i) - 'a');
        }
        return set.get(end);
    }

    /** The least word whose telling is (in this, in the other) as wanted by the bits; null if none. */
    String leastWhere(Reference other, boolean here, boolean there) {
        Map<List<BitSet>, String> words = new HashMap<>();
        ArrayDeque<List<BitSet>> queue = new ArrayDeque<>();
        List<BitSet> first = List.of(begin(), other.begin());
        words.put(first, "");
        queue.add(first);
        while (!queue.isEmpty()) {
            List<BitSet> pair = queue.remove();
            String word = words.get(pair);
            if (pair.get(0).get(end) == here && pair.get(1).get(other.end) == there) {
                return word;
            }
            for (int letter = 0; letter < 4; letter++) {
                List<BitSet> next = List.of(step(pair.get(0), letter), other.step(pair.get(1), letter));
                if (words.putIfAbsent(next, word + (char) ('a' + letter)) == null) {
                    queue.add(next);
                }
            }
        }
        return null;
    }

    /** Numbers the states of the complete machine: rows of four next states and 1 or 0 for the end. */
    private List<int[]> machine() {
        Map<BitSet, Integer> numbers = new HashMap<>();
        List<BitSet> sets = new ArrayList<>();
        List<int[]> rows = new ArrayList<>();
        sets.add(begin());
        numbers.put(sets.get(0), 0);
        for (int i = 0; i < sets.size(); i++) {
            int[] row = new int[5];
            for (int letter = 0; letter < 4; letter++) {
                BitSet next = step(sets.get(i), letter);
                if (!numbers.containsKey(next)) {
                    numbers.put(next, sets.size());
                    sets.add(next);
                }
                row[letter] = numbers.get(next);
            }
            row[4] = sets.get(i).get(end) ? 1 : 0;
            rows.add(row);
        }
        return rows;
    }

    long[] counts(int longest) {
        List<int[]> rows = machine();
        long[] reached = new long[rows.size()];
        long[] counts = new long[longest + 1];
        reached[0] = 1;
        for (int length = 0; length <= longest; length++) {
            long[] next = new long[rows.size()];
            for (int i = 0; i < reached.length; i++) {
                counts[length] += rows.get(i)[4] * reached[i];
                for (int letter = 0; letter < 4; letter++) {
                    next[rows.get(i)[letter]] += reached[i];
                }
            }
            reached = next;
        }
        return counts;
    }

    /** By marking the pairs of states that some word tells apart. */
    int leastStates() {
        List<int[]> rows = machine();
        int n = rows.size();
        boolean[][] apart = new boolean[n][n];
        boolean more = true;
        while (more) {
            more = false;
            for (int i = 0; i < n; i++) {
                for (int j = 0; j < n; j++) {
                    if (!apart[i][j] && differ(rows.get(i), rows.get(j), apart)) {
                        apart[i][j] = true;
                        more = true;
                    }
                }
            }
        }
        int kinds = 0;
        for (int i = 0; i < n; i++) {
            boolean first = true;
            for (int j = 0; j < i; j++) {
                first &= apart[i][j];
            }
            kinds += first ? 1 : 0;
        }
        return kinds;
    }

    private static boolean differ(int[] one, int[] other, boolean[][] apart) {
        boolean differ = one[4] != other[4];
        for (int letter = 0; letter < 4; letter++) {
            differ |= apart[one[letter]][other[letter]];
        }
        return differ;
    }

    /** All words of a length that this tells, rising. */
    List<String> words(int length) {
        List<String> words = new ArrayList<>();
        addWords("", begin(), length, words);
        return words;
    }

    private void addWords(String begin, BitSet set, int more, List<String> words) {
        if (more == 0) {
            if (set.get(end)) {
                words.add(begin);
            }
            return;
        }
        for (int letter = 0; letter < 4; letter++) {
            addWords(begin + (char) ('a' + letter), step(set, letter), more - 1, words);
        }
    }
}
