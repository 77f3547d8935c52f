import java.util.ArrayList;
import java.util.HashSet;
import java.util.List;
import java.util.Set;
import java.util.TreeSet;

/**
 * Every small text, by nothing but the words of "Terms": the right texts are made as the document makes
 * them, each with the set of its words, and a text can be right when a right one begins with it.
 */
public final class SmallTextsTest {
    private static final int LONGEST_WORD = 5;
    private static final int MOST_BYTES = 5;
    // Four brackets that open want one atom and four that close.
    private static final int BEGUN = 4;
    private static final int COMPLETED = 9;

    /** An expression, and which words of at most LONGEST_WORD letters it tells. */
    private record Told(String text, Set<String> words) {}

    private final Check check = new Check("every small text");

    public static void main(String[] args) {
        SmallTextsTest test = new SmallTextsTest();
        List<Told> right = new Grammar("ab01", "*+?").rightTexts(MOST_BYTES);
        for (int i = 0; i < right.size(); i++) {
            WordSets x = new WordSets();
            test.tells(x, right.get(i));
            test.part(x, right.get(i), right.get((int) (i * 7919L % right.size())));
        }
        test.places();
        test.check.end();
    }

    /** Makes all right texts over some signs, the smaller ones first. */
    private static final class Grammar {
        private final String atomSigns;
        private final String repeatSigns;
        // By size: the first list is that of the texts of no byte.
        private final List<List<Told>> factors = new ArrayList<>(List.of(List.of()));
        private final List<List<Told>> rows = new ArrayList<>(List.of(List.of()));
        private final List<List<Told>> sums = new ArrayList<>(List.of(List.of()));

        Grammar(String atomSigns, String repeatSigns) {
            this.atomSigns = atomSigns;
            this.repeatSigns = repeatSigns;
        }

        List<Told> rightTexts(int mostBytes) {
            List<Told> all = new ArrayList<>();
            for (int size = 1; size <= mostBytes; size++) {
                factors.add(factorsOf(size));
                rows.add(rowsOf(size));
                sums.add(sumsOf(size));
                all.addAll(sums.get(size));
            }
            return all;
        }

        private List<Told> factorsOf(int size) {
            List<Told> made = size == 1 ? signs() : new ArrayList<>();
            if (size > 2) {
                for (Told inner : sums.get(size - 2)) {
                    made.add(new Told("(" + inner.text + ")", inner.words));
                }
            }
            for (Told factor : factors.get(size - 1)) {
                for (char sign : repeatSigns.toCharArray()) {
                    made.add(new Told(factor.text + sign, repeated(factor.words, sign)));
                }
            }
            return made;
        }

        private List<Told> signs() {
            List<Told> made = new ArrayList<>();
            for (char sign : atomSigns.toCharArray()) {
                Set<String> words = noWords();
                if (sign != '0') {
                    words.add(sign == '1' ? "" : "" + sign);
                }
                made.add(new Told("" + sign, words));
            }
            return made;
        }

        private List<Told> rowsOf(int size) {
            List<Told> made = new ArrayList<>(factors.get(size));
            for (int first = 1; first < size; first++) {
                for (Told one : rows.get(first)) {
                    for (Told other : factors.get(size - first)) {
                        made.add(new Told(one.text + other.text, together(one.words, other.words)));
                    }
                }
            }
            return made;
        }

        private List<Told> sumsOf(int size) {
            List<Told> made = new ArrayList<>(rows.get(size));
            for (int first = 1; first < size - 1; first++) {
                for (Told one : sums.get(first)) {
                    for (Told other : rows.get(size - first - 1)) {
                        made.add(new Told(one.text + "|" + other.text, either(one.words, other.words)));
                    }
                }
            }
            return made;
        }
    }

    private static Set<String> noWords() {
        return new TreeSet<>((one, other) -> one.equals(other) ? 0 : Reference.isLess(one, other) ? -1 : 1);
    }

    private static Set<String> either(Set<String> one, Set<String> other) {
        Set<String> words = noWords();
        words.addAll(one);
        words.addAll(other);
        return words;
    }

    private static Set<String> together(Set<String> one, Set<String> other) {
        Set<String> words = noWords();
        for (String begin : one) {
            for (String end : other) {
                if (begin.length() + end.length() <= LONGEST_WORD) {
                    words.add(begin + end);
                }
            }
        }
        return words;
    }

    /** As many as LONGEST_WORD of them are enough: those that are not empty have a letter each. */
    private static Set<String> repeated(Set<String> words, char sign) {
        Set<String> none = noWords();
        none.add("");
        if (sign == '?') {
            return either(words, none);
        }
        Set<String> all = sign == '*' ? either(words, none) : words;
        for (int i = 1; i < LONGEST_WORD; i++) {
            all = either(all, together(all, words));
        }
        return all;
    }

    /** What read, place, count, word, has and least answer of one text. */
    private void tells(WordSets x, Told due) {
        String text = due.text;
        check.equal("letters of " + text, Use.read(x, 0, text), text.replaceAll("[^abcd]", "").length());
        check.equal("place of " + text, x.place(), -1);
        int[] found = new int[LONGEST_WORD + 1];
        for (String word : due.words) {
            if (found[word.length()] < 3) {
                check.equal(text + " word", x.word(0, word.length(), found[word.length()]), true);
                check.equal(text + " word", Use.word(x), word);
            }
            found[word.length()]++;
        }
        for (int length = 0; length <= LONGEST_WORD; length++) {
            check.equal(text + " of length " + length, x.count(0, length), found[length]);
        }
        for (String word : new String[] {"", "a", "b", "ab", "bb", "aba", "c"}) {
            check.equal(text + " has " + word, Use.has(x, 0, word), due.words.contains(word));
        }
        // No expression needs a longer word than it has letters to tell one at all.
        String least = due.words.isEmpty() ? "" : due.words.iterator().next();
        check.equal("least of " + text, x.least(0), due.words.isEmpty() ? -1 : least.length());
        check.equal("least of " + text, Use.word(x), least);
    }

    /** What compare and contains answer of two; longer words than the sets have stay open. */
    private void part(WordSets x, Told one, Told other) {
        Use.read(x, 1, other.text);
        String mine = firstOutside(one.words, other.words);
        String others = firstOutside(other.words, one.words);
        int answer = x.compare(0, 1);
        String what = one.text + " and " + other.text;
        if (mine == null && others == null) {
            check.equal(what, answer == 0 ? x.size() == 0 : x.size() > LONGEST_WORD, true);
        } else {
            check.equal(what, answer, Reference.isLess(mine, others) ? 1 : 2);
            check.equal(what, Use.word(x), Reference.isLess(mine, others) ? mine : others);
        }
        boolean all = x.contains(0, 1);
        if (others == null) {
            check.equal(what, all ? x.size() == 0 : x.size() > LONGEST_WORD, true);
        } else {
            check.equal(what, all, false);
            check.equal(what, Use.word(x), others);
        }
    }

    private static String firstOutside(Set<String> words, Set<String> others) {
        for (String word : words) {
            if (!others.contains(word)) {
                return word;
            }
        }
        return null;
    }

    private void places() {
        Set<String> right = new HashSet<>();
        Set<String> begun = new HashSet<>();
        for (Told told : new Grammar("1", "*").rightTexts(COMPLETED)) {
            right.add(told.text);
            for (int size = 0; size <= Math.min(BEGUN, told.text.length()); size++) {
                begun.add(told.text.substring(0, size));
            }
        }
        placesBehind("", right, begun);
    }

    private void placesBehind(String text, Set<String> right, Set<String> begun) {
        int due = right.contains(text) ? -1 : text.length();
        for (int size = text.length(); size > 0 && !begun.contains(text.substring(0, size)); size--) {
            due = size - 1;
        }
        check.equal("place of \"" + text + "\"", Use.place(new WordSets(), 0, text), due);
        if (text.length() < BEGUN) {
            for (char sign : "1()|*e".toCharArray()) {
                placesBehind(text + sign, right, begun);
            }
        }
    }
}
