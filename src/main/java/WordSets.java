import java.util.Arrays;

/**
 * Regular expressions over the letters a, b, c, d in four slots: which words they tell, and in which
 * words they part.
 *
 * <p>An expression is held as the positions of its letters and which of them can stand behind which
 * (Glushkov's machine). With at most eight letters a set of positions fits in a few bits, so every
 * state of a deterministic machine is a small number.
 */
public final class WordSets {
    private static final int SLOTS = 4;
    private static final int ALPHABET = 4;
    private static final int MOST_LETTERS = 8;
    private static final int MOST_NESTED = 8;
    private static final int MOST_BYTES = 80;
    private static final int MOST_FED = 8;
    private static final int LONGEST_COUNTED = 30;

    private final Tape tape = new Tape();
    private final Expression[] slots = new Expression[SLOTS];
    private final Expression nothing = new Expression();
    private final Parser parser = new Parser();
    private final Machine machine = new Machine();
    private final Search search = new Search();
    private final Word theWord = new Word();
    private Expression spare = new Expression();
    private int wrongAt = -1;

    public WordSets() {
        for (int slot = 0; slot < SLOTS; slot++) {
            slots[slot] = new Expression();
        }
    }

    public int feed(long bytes, int n) throws IllegalArgumentException, IllegalStateException {
        if (n < 1 || n > MOST_FED) {
            throw new IllegalArgumentException("n is not 1 to 8");
        }
        if (!tape.append(bytes, n)) {
            throw new IllegalStateException("more than 80 bytes");
        }
        return tape.size;
    }

    public int read(int slot) throws IllegalArgumentException {
        int length = tape.useUp();
        checkSlot(slot);
        wrongAt = parser.parse(tape.bytes, length, spare);
        if (wrongAt >= 0) {
            throw new IllegalArgumentException("the text is wrong");
        }
        putSpare(slot);
        return slots[slot].letters;
    }

    public int place() {
        return wrongAt;
    }

    public boolean has(int slot) throws IllegalArgumentException {
        int length = tape.useUp();
        checkSlot(slot);
        if (!tape.isWord(length)) {
            throw new IllegalArgumentException("a byte is no letter");
        }
        Expression expression = slots[slot];
        int state = Expression.START;
        for (int i = 0; i < length; i++) {
            state = expression.step(state, tape.bytes[i] - 'a');
        }
        return expression.accepts(state);
    }

    public int compare(int a, int b) throws IllegalArgumentException {
        checkSlot(a);
        checkSlot(b);
        return search.part(slots[a], slots[b], Search.FIRST_ALONE | Search.SECOND_ALONE, theWord);
    }

    public boolean contains(int a, int of) throws IllegalArgumentException {
        checkSlot(a);
        checkSlot(of);
        return search.part(slots[a], slots[of], Search.SECOND_ALONE, theWord) == Search.NEVER;
    }

    public int least(int slot) throws IllegalArgumentException {
        checkSlot(slot);
        int parted = search.part(slots[slot], nothing, Search.FIRST_ALONE, theWord);
        return parted == Search.NEVER ? -1 : theWord.size;
    }

    public long count(int slot, int length) throws IllegalArgumentException {
        checkSlot(slot);
        checkLength(length);
        machine.build(slots[slot]);
        return machine.tally(length);
    }

    public boolean word(int slot, int length, long k) throws IllegalArgumentException {
        checkSlot(slot);
        checkLength(length);
        if (k < 0) {
            throw new IllegalArgumentException("k is below 0");
        }
        machine.build(slots[slot]);
        if (k >= machine.tally(length)) {
            theWord.resize(0);
            return false;
        }
        machine.spell(length, k, theWord);
        return true;
    }

    public int states(int slot) throws IllegalArgumentException {
        checkSlot(slot);
        machine.build(slots[slot]);
        return machine.groups();
    }

    public void turn(int slot, int to) throws IllegalArgumentException {
        checkSlot(slot);
        checkSlot(to);
        spare.becomeReverse(slots[slot]);
        putSpare(to);
    }

    public int size() {
        return theWord.size;
    }

    public int letter(int k) throws IndexOutOfBoundsException {
        if (k < 0 || k >= theWord.size) {
            throw new IndexOutOfBoundsException("no such letter");
        }
        return theWord.letters[k];
    }

    private static void checkSlot(int slot) {
        if (slot < 0 || slot >= SLOTS) {
            throw new IllegalArgumentException("no such slot");
        }
    }

    private static void checkLength(int length) {
        if (length < 0 || length > LONGEST_COUNTED) {
            throw new IllegalArgumentException("no such length");
        }
    }

    /** The slot's old expression becomes the spare one, so that no call makes a new one. */
    private void putSpare(int slot) {
        Expression old = slots[slot];
        slots[slot] = spare;
        spare = old;
    }

    /** The bytes fed and not yet used up. */
    private static final class Tape {
        final int[] bytes = new int[MOST_BYTES];
        int size = 0;

        boolean append(long fed, int n) {
            if (size + n > MOST_BYTES) {
                return false;
            }
            for (int i = n - 1; i >= 0; i--) {
                bytes[size] = (int) (fed >>> (8 * i)) & 255;
                size++;
            }
            return true;
        }

        /** How many bytes there were; they can still be looked at until more are fed. */
        int useUp() {
            int used = size;
            size = 0;
            return used;
        }

        boolean isWord(int length) {
            for (int i = 0; i < length; i++) {
                if (bytes[i] < 'a' || bytes[i] > 'd') {
                    return false;
                }
            }
            return true;
        }
    }

    /** The word that the latest call left. */
    private static final class Word {
        int[] letters = new int[LONGEST_COUNTED];
        int size = 0;

        /** What the letters are afterwards is left to the caller. */
        void resize(int wanted) {
            if (wanted > letters.length) {
                letters = new int[wanted];
            }
            size = wanted;
        }
    }

    /**
     * An expression as its positions: bit p of a state stands for the p-th letter having just been
     * read, START for nothing having been read. A new one tells no word.
     */
    private static final class Expression {
        static final int START_POSITION = MOST_LETTERS;
        static final int START = 1 << START_POSITION;

        final int[] follow = new int[START_POSITION + 1];
        final int[] spelt = new int[ALPHABET];
        int ends = 0;
        int letters = 0;

        void clear() {
            Arrays.fill(follow, 0);
            Arrays.fill(spelt, 0);
            ends = 0;
            letters = 0;
        }

        /** The new position as a bit; the caller has seen that there is room. */
        int addLetter(int letter) {
            int bit = 1 << letters;
            spelt[letter] |= bit;
            letters++;
            return bit;
        }

        void link(int from, int to) {
            for (int p = 0; p <= START_POSITION; p++) {
                if ((from >> p & 1) != 0) {
                    follow[p] |= to;
                }
            }
        }

        void setWhole(Part whole) {
            follow[START_POSITION] = whole.first;
            ends = whole.empty ? whole.last | START : whole.last;
        }

        boolean accepts(int state) {
            return (state & ends) != 0;
        }

        /** The positions that can come next, whatever the letter. */
        int onward(int state) {
            int reached = 0;
            for (int p = 0; p <= START_POSITION; p++) {
                if ((state >> p & 1) != 0) {
                    reached |= follow[p];
                }
            }
            return reached;
        }

        int step(int state, int letter) {
            return onward(state) & spelt[letter];
        }

        /** Turning every link around turns every word around; first and last positions change places. */
        void becomeReverse(Expression other) {
            clear();
            for (int p = 0; p < START_POSITION; p++) {
                link(other.follow[p], 1 << p);
            }
            follow[START_POSITION] = other.ends & ~START;
            ends = other.follow[START_POSITION] | other.ends & START;
            System.arraycopy(other.spelt, 0, spelt, 0, ALPHABET);
            letters = other.letters;
        }
    }

    /** A part of an expression: where its words can begin and end, and whether the empty one is there. */
    private static final class Part {
        int first = 0;
        int last = 0;
        boolean empty = false;

        void become(int newFirst, int newLast, boolean newEmpty) {
            first = newFirst;
            last = newLast;
            empty = newEmpty;
        }

        void addAlternative(Part other) {
            become(first | other.first, last | other.last, empty || other.empty);
        }

        void addBehind(Part other, Expression target) {
            target.link(last, other.first);
            int newFirst = empty ? first | other.first : first;
            int newLast = other.empty ? last | other.last : other.last;
            become(newFirst, newLast, empty && other.empty);
        }

        void repeat(int sign, Expression target) {
            if (sign != '?') {
                target.link(last, first);
            }
            empty = empty || sign != '+';
        }
    }

    /** Reads a text byte by byte; the sums and rows that stand open are kept by depth. */
    private static final class Parser {
        private final Part[] sums = new Part[MOST_NESTED + 1];
        private final Part[] rows = new Part[MOST_NESTED + 1];
        // The latest factor waits outside its row, because a * + ? may still follow it.
        private final Part factor = new Part();
        private boolean factorWaits = false;
        private int depth = 0;

        Parser() {
            for (int d = 0; d <= MOST_NESTED; d++) {
                sums[d] = new Part();
                rows[d] = new Part();
            }
        }

        /** Where the text is wrong; -1 when it is right, and then the target is its expression. */
        int parse(int[] text, int length, Expression target) {
            target.clear();
            depth = 0;
            factorWaits = false;
            beginSum();
            for (int i = 0; i < length; i++) {
                if (!accept(text[i], target)) {
                    return i;
                }
            }
            if (!joinFactor(target) || depth > 0) {
                return length;
            }
            endRow();
            target.setWhole(sums[0]);
            return -1;
        }

        private boolean accept(int sign, Expression target) {
            if (sign == '*' || sign == '+' || sign == '?') {
                return acceptRepeat(sign, target);
            }
            boolean behindFactor = joinFactor(target);
            switch (sign) {
                case 'a':
                case 'b':
                case 'c':
                case 'd':
                    return acceptLetter(sign - 'a', target);
                case '0':
                case '1':
                    setFactor(0, 0, sign == '1');
                    return true;
                case '(':
                    return acceptOpening();
                case ')':
                    return behindFactor && acceptClosing();
                case '|':
                    endRow();
                    return behindFactor;
                default:
                    return false;
            }
        }

        private boolean acceptRepeat(int sign, Expression target) {
            if (factorWaits) {
                factor.repeat(sign, target);
            }
            return factorWaits;
        }

        private boolean acceptLetter(int letter, Expression target) {
            if (target.letters >= MOST_LETTERS) {
                return false;
            }
            int bit = target.addLetter(letter);
            setFactor(bit, bit, false);
            return true;
        }

        private boolean acceptOpening() {
            if (depth >= MOST_NESTED) {
                return false;
            }
            depth++;
            beginSum();
            return true;
        }

        /** The sum that ends is a factor of the row around it. */
        private boolean acceptClosing() {
            if (depth <= 0) {
                return false;
            }
            endRow();
            Part sum = sums[depth];
            depth--;
            setFactor(sum.first, sum.last, sum.empty);
            return true;
        }

        private void setFactor(int first, int last, boolean empty) {
            factor.become(first, last, empty);
            factorWaits = true;
        }

        /** Whether a factor waited; nothing can change it any more, so its row takes it. */
        private boolean joinFactor(Expression target) {
            boolean waited = factorWaits;
            if (waited) {
                rows[depth].addBehind(factor, target);
            }
            factorWaits = false;
            return waited;
        }

        private void beginSum() {
            sums[depth].become(0, 0, false);
            rows[depth].become(0, 0, true);
        }

        private void endRow() {
            sums[depth].addAlternative(rows[depth]);
            rows[depth].become(0, 0, true);
        }
    }

    /** The complete deterministic machine of one expression; its states are numbered, the first is 0. */
    private static final class Machine {
        // Every set of positions, and the start.
        private static final int MOST_STATES = Expression.START + 1;

        private final int[] sets = new int[MOST_STATES];
        private final int[] numbers = new int[MOST_STATES];
        private final int[] next = new int[MOST_STATES * ALPHABET];
        private final int[] accepting = new int[MOST_STATES];
        private final int[] group = new int[MOST_STATES];
        private final int[] finer = new int[MOST_STATES];
        // By length, then state: how many words of the length lead from the state to an accepting one.
        private final long[] tallies = new long[(LONGEST_COUNTED + 1) * MOST_STATES];
        private int size = 0;

        void build(Expression expression) {
            Arrays.fill(numbers, -1);
            size = 0;
            numberOf(Expression.START, expression);
            for (int state = 0; state < size && state < MOST_STATES; state++) {
                int onward = expression.onward(sets[state]);
                for (int letter = 0; letter < ALPHABET; letter++) {
                    int set = onward & expression.spelt[letter];
                    next[state * ALPHABET + letter] = numberOf(set, expression);
                }
            }
        }

        private int numberOf(int set, Expression expression) {
            if (numbers[set] < 0) {
                numbers[set] = size;
                sets[size] = set;
                accepting[size] = expression.accepts(set) ? 1 : 0;
                size++;
            }
            return numbers[set];
        }

        /** How many words of a length there are; spell() uses the tallies made here. */
        long tally(int length) {
            for (int state = 0; state < size; state++) {
                tallies[state] = accepting[state];
            }
            for (int n = 1; n <= length; n++) {
                for (int state = 0; state < size; state++) {
                    tallies[n * MOST_STATES + state] = tallyOver(state, (n - 1) * MOST_STATES);
                }
            }
            return tallies[length * MOST_STATES];
        }

        private long tallyOver(int state, int shorter) {
            long sum = 0;
            for (int letter = 0; letter < ALPHABET; letter++) {
                sum += tallies[shorter + next[state * ALPHABET + letter]];
            }
            return sum;
        }

        /** The k-th word of a length, k being below the tally of that length made just before. */
        void spell(int length, long k, Word word) {
            word.resize(length);
            int state = 0;
            long skip = k;
            for (int i = 0; i < length; i++) {
                int shorter = (length - 1 - i) * MOST_STATES;
                int letter = 0;
                int to = next[state * ALPHABET];
                while (letter < ALPHABET - 1 && skip >= tallies[shorter + to]) {
                    skip -= tallies[shorter + to];
                    letter++;
                    to = next[state * ALPHABET + letter];
                }
                word.letters[i] = letter;
                state = to;
            }
        }

        /** How many states differ in the words that they lead to: Moore's refinement. */
        int groups() {
            System.arraycopy(accepting, 0, group, 0, size);
            int known = 0;
            for (int round = 0; round <= size; round++) {
                int found = refine();
                if (found == known) {
                    return known;
                }
                known = found;
            }
            return known;
        }

        private int refine() {
            int found = 0;
            for (int state = 0; state < size; state++) {
                int like = firstLike(state);
                if (like < state) {
                    finer[state] = finer[like];
                } else {
                    finer[state] = found;
                    found++;
                }
            }
            System.arraycopy(finer, 0, group, 0, size);
            return found;
        }

        private int firstLike(int state) {
            for (int other = 0; other < state; other++) {
                if (alike(other, state)) {
                    return other;
                }
            }
            return state;
        }

        private boolean alike(int one, int other) {
            boolean same = group[one] == group[other];
            for (int letter = 0; letter < ALPHABET && same; letter++) {
                int oneNext = next[one * ALPHABET + letter];
                int otherNext = next[other * ALPHABET + letter];
                same = group[oneNext] == group[otherNext];
            }
            return same;
        }
    }

    /** Goes through the pairs of states that two expressions reach with the same word, least word first. */
    private static final class Search {
        static final int NEVER = 0;
        static final int FIRST_ALONE = 1;
        static final int SECOND_ALONE = 2;

        // The start is reached by the empty word only; every other pair has one bit here.
        private static final int MOST_PAIRS = 1 + (1 << (2 * MOST_LETTERS));
        private static final int FIRST_ROOM = 64;

        private final long[] seen = new long[1 << (2 * MOST_LETTERS - 6)];
        // Few expressions reach more than some dozen pairs, so these rows grow when one does.
        private int[] firsts = new int[FIRST_ROOM];
        private int[] seconds = new int[FIRST_ROOM];
        // The pair before, times four, and the letter between.
        private int[] origins = new int[FIRST_ROOM];
        private int size = 0;

        /**
         * Which of the two tells the least word that one of those wanted alone tells, and leaves that
         * word; NEVER and the empty word when there is none.
         */
        int part(Expression first, Expression second, int wanted, Word word) {
            Arrays.fill(seen, 0L);
            size = 0;
            append(Expression.START, Expression.START, 0);
            for (int at = 0; at < size && at < MOST_PAIRS; at++) {
                int alone = whoAlone(first.accepts(firsts[at]), second.accepts(seconds[at])) & wanted;
                if (alone != NEVER) {
                    spellWay(at, word);
                    return alone;
                }
                goOn(at, first, second);
            }
            word.resize(0);
            return NEVER;
        }

        private static int whoAlone(boolean first, boolean second) {
            if (first == second) {
                return NEVER;
            }
            return first ? FIRST_ALONE : SECOND_ALONE;
        }

        private void goOn(int at, Expression first, Expression second) {
            int firstOnward = first.onward(firsts[at]);
            int secondOnward = second.onward(seconds[at]);
            for (int letter = 0; letter < ALPHABET; letter++) {
                int firstSet = firstOnward & first.spelt[letter];
                int secondSet = secondOnward & second.spelt[letter];
                if (markIfNew(firstSet, secondSet)) {
                    append(firstSet, secondSet, at * ALPHABET + letter);
                }
            }
        }

        private boolean markIfNew(int firstSet, int secondSet) {
            int pair = firstSet << MOST_LETTERS | secondSet;
            long bit = 1L << (pair & 63);
            boolean fresh = (seen[pair >> 6] & bit) == 0;
            seen[pair >> 6] |= bit;
            return fresh;
        }

        private void append(int firstSet, int secondSet, int origin) {
            if (size >= firsts.length) {
                firsts = Arrays.copyOf(firsts, 2 * size);
                seconds = Arrays.copyOf(seconds, 2 * size);
                origins = Arrays.copyOf(origins, 2 * size);
            }
            firsts[size] = firstSet;
            seconds[size] = secondSet;
            origins[size] = origin;
            size++;
        }

        private void spellWay(int end, Word word) {
            int length = 0;
            for (int at = end; at > 0 && length < size; at = origins[at] / ALPHABET) {
                length++;
            }
            word.resize(length);
            int at = end;
            for (int i = length - 1; i >= 0; i--) {
                word.letters[i] = origins[at] % ALPHABET;
                at = origins[at] / ALPHABET;
            }
        }
    }
}
