/** Promise 14: the last letter and the first that is none, for words of all sizes. */
public final class Edge14LetterTest {
    public static void main(String[] args) {
        Edges edges = new Edges("Promise 14");
        edges.sentence("Letter k of the word (0 a .. 3 d)", Edge14LetterTest::lettersOfTheWord);
        edges.sentence("IndexOutOfBoundsException: there is none such", Edge14LetterTest::noneSuch);
        edges.end();
    }

    private static void lettersOfTheWord(Check check) {
        WordSets x = Use.with("a", "b", "c", "d");
        for (int slot = 0; slot <= 3; slot++) {
            x.least(slot);
            check.equal("the only letter", x.letter(0), slot);
            check.equal("the only letter again", x.letter(0), slot);
        }
        Use.read(x, 0, "abcddcba");
        x.least(0);
        for (int k = 0; k < 8; k++) {
            check.equal("letter " + k, x.letter(k), k < 4 ? k : 7 - k);
        }
        Use.read(x, 0, "(a|b|c|d)*");
        x.word(0, 30, 3L << 58 | 2);
        check.equal("the first of 30", x.letter(0), 3);
        check.equal("the last of 30", x.letter(29), 2);
        check.equal("one between", x.letter(15), 0);
    }

    private static void none(Check check, WordSets x, int size) {
        int[] places = {-1, size, size + 1, -size - 1, 29 + size, 1 << 16, Integer.MIN_VALUE, Integer.MAX_VALUE};
        String word = Use.word(x);
        check.equal("letters", word.length(), size);
        for (int k : places) {
            check.throwsA("letter " + k + " of " + size, IndexOutOfBoundsException.class, () -> x.letter(k));
        }
        if (size > 0) {
            check.equal("the first letter is there", x.letter(0) >= 0, true);
            check.equal("the last letter is there", x.letter(size - 1) >= 0, true);
        }
        check.equal("the word stays", Use.word(x), word);
    }

    private static void noneSuch(Check check) {
        none(check, new WordSets(), 0);
        for (int length = 0; length <= 30; length++) {
            WordSets x = Use.with("(a|b|c|d)*");
            // A longer word before leaves no letter behind.
            x.word(0, 30, 5);
            x.word(0, length, 0);
            none(check, x, length);
        }
        WordSets x = Use.with("dddd", "(b*)a+((b)+)*(((a)(b)*a)+)b*a+", "(b((b)(a)(a(aaaa)+)+))+");
        x.contains(1, 2);
        none(check, x, 45);
        x.least(0);
        none(check, x, 4);
        x.compare(0, 0);
        none(check, x, 0);
        for (int k : new int[] {-1, 3, 4, Integer.MIN_VALUE, Integer.MAX_VALUE}) {
            Refused.leavesAll(check, "letter " + k, IndexOutOfBoundsException.class, y -> y.letter(k));
        }
    }
}
