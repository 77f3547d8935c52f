import java.util.List;

/** The face of WordSets over the Reference, with the same exceptions; lengths up to 6 for word(). */
final class Model {
    private final Reference[] slots = new Reference[4];
    private final StringBuilder tape = new StringBuilder();
    private String word = "";
    private int place = -1;

    Model() {
        for (int slot = 0; slot < 4; slot++) {
            slots[slot] = Reference.of("0");
        }
    }

    private static void demand(boolean holds) {
        if (!holds) {
            throw new IllegalArgumentException();
        }
    }

    private Reference at(int slot) {
        demand(0 <= slot && slot <= 3);
        return slots[slot];
    }

    private String used() {
        String text = tape.toString();
        tape.setLength(0);
        return text;
    }

    int feed(long bytes, int n) {
        demand(1 <= n && n <= 8);
        if (tape.length() + n > 80) {
            throw new IllegalStateException();
        }
        for (int i = n - 1; i >= 0; i--) {
            tape.append((char) (bytes >> 8 * i & 255));
        }
        return tape.length();
    }

    int read(int slot) {
        String text = used();
        at(slot);
        place = Reference.place(text);
        demand(place == -1);
        slots[slot] = Reference.of(text);
        return slots[slot].letters();
    }

    int place() {
        return place;
    }

    boolean has(int slot) {
        String text = used();
        Reference mine = at(slot);
        demand(text.matches("[abcd]*"));
        return mine.has(text);
    }

    int compare(int a, int b) {
        String first = at(a).leastWhere(at(b), true, false);
        String second = at(a).leastWhere(at(b), false, true);
        word = "";
        if (first == null && second == null) {
            return 0;
        }
        boolean firstLess = Reference.isLess(first, second);
        word = firstLess ? first : second;
        return firstLess ? 1 : 2;
    }

    boolean contains(int a, int of) {
        String lacking = at(a).leastWhere(at(of), false, true);
        word = lacking == null ? "" : lacking;
        return lacking == null;
    }

    int least(int slot) {
        String least = at(slot).leastWhere(Reference.of("0"), true, false);
        word = least == null ? "" : least;
        return least == null ? -1 : least.length();
    }

    long count(int slot, int length) {
        Reference mine = at(slot);
        demand(0 <= length && length <= 30);
        return mine.counts(length)[length];
    }

    boolean word(int slot, int length, long k) {
        Reference mine = at(slot);
        demand(0 <= length && length <= 30 && k >= 0);
        List<String> words = mine.words(length);
        word = k < words.size() ? words.get((int) k) : "";
        return k < words.size();
    }

    int states(int slot) {
        return at(slot).leastStates();
    }

    void turn(int slot, int to) {
        Reference turned = at(slot).turned();
        at(to);
        slots[to] = turned;
    }

    int size() {
        return word.length();
    }

    int letter(int k) {
        if (k < 0 || k >= word.length()) {
            throw new IndexOutOfBoundsException();
        }
        return word.charAt(k) - 'a';
    }
}
