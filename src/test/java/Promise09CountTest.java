/** Promise 9: count. */
public final class Promise09CountTest {
    public static void main(String[] args) {
        Check check = new Check("count");
        powers(check);
        WordSets x = Use.with("(a|b)*abb", "a?", "(a|a)(a|1)(a?|a*)", "(a|bcd|d+c?)*");
        check.equal("of length 2", x.count(0, 2), 0);
        check.equal("of length 3", x.count(0, 3), 1);
        check.equal("of length 5", x.count(0, 5), 4);
        check.equal("of length 30", x.count(0, 30), 1L << 27);
        check.equal("the empty word", x.count(1, 0), 1);
        check.equal("of length 1", x.count(1, 1), 1);
        check.equal("of length 2", x.count(1, 2), 0);
        check.equal("a word told in several ways counts once", x.count(2, 2), 1);
        check.equal("of length 3", x.count(3, 3), 13);
        wrongArguments(check);
        leavesOtherThingsAlone(check);
        textsByChance(check);
        check.end();
    }

    private static void powers(Check check) {
        WordSets x = Use.with("(a|b|c|d)*", "0", "1", "(a|b|c)+");
        long four = 1;
        long three = 1;
        for (int length = 0; length <= 30; length++) {
            check.equal("all words of length " + length, x.count(0, length), four);
            check.equal("no word of length " + length, x.count(1, length), 0);
            check.equal("the empty word alone, length " + length, x.count(2, length), length == 0 ? 1 : 0);
            check.equal("three letters, length " + length, x.count(3, length), length == 0 ? 0 : three);
            four *= 4;
            three *= 3;
        }
    }

    private static void wrongArguments(Check check) {
        WordSets x = Use.with("a*");
        for (int slot : Use.NO_SLOTS) {
            check.throwsIllegalArgument("slot " + slot, () -> x.count(slot, 1));
            check.throwsIllegalArgument("slot " + slot, () -> x.count(slot, 31));
        }
        for (int length : new int[] {-1, 31, 32, Integer.MIN_VALUE, Integer.MAX_VALUE}) {
            check.throwsIllegalArgument("length " + length, () -> x.count(0, length));
        }
        check.equal("length 30", x.count(0, 30), 1);
    }

    private static void leavesOtherThingsAlone(Check check) {
        WordSets x = Use.with("ab");
        x.least(0);
        Use.feed(x, "abc");
        x.count(0, 0);
        x.count(0, 5);
        check.equal("the word stays", Use.word(x), "ab");
        check.throwsIllegalArgument("length 31", () -> x.count(0, 31));
        check.equal("the word stays", Use.word(x), "ab");
        check.equal("the tape stays", Use.fedBefore(x), 3);
    }

    private static void textsByChance(Check check) {
        Texts texts = new Texts(9);
        for (int i = 0; i < 1000; i++) {
            String text = texts.right(1 + i % 4);
            WordSets x = Use.with(text);
            long[] due = Reference.of(text).counts(30);
            for (int length = 30; length >= 0; length--) {
                check.equal(text + " of length " + length, x.count(0, length), due[length]);
            }
        }
    }
}
