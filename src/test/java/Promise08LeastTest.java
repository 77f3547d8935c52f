/** Promise 8: least. */
public final class Promise08LeastTest {
    public static void main(String[] args) {
        Check check = new Check("least");
        leastOf(check, "0", null);
        leastOf(check, "a0", null);
        leastOf(check, "0a|b0+", null);
        leastOf(check, "1", "");
        leastOf(check, "a*", "");
        leastOf(check, "(a|b)*abb", "abb");
        leastOf(check, "b|aa", "b");
        leastOf(check, "ba|ab", "ab");
        leastOf(check, "d|c", "c");
        leastOf(check, "abcdabcd", "abcdabcd");
        leastOf(check, "dddddddd", "dddddddd");
        leastOf(check, "(a0|d)c", "dc");
        slotsAndWord(check);
        textsByChance(check);
        check.end();
    }

    private static void leastOf(Check check, String text, String word) {
        WordSets x = Use.with(text, "cc");
        x.least(1);
        check.equal("least of " + text, x.least(0), word == null ? -1 : word.length());
        check.equal("least of " + text, Use.word(x), word == null ? "" : word);
    }

    private static void slotsAndWord(Check check) {
        WordSets x = Use.with("a", "bb", "ccc", "dddd");
        for (int slot = 0; slot < 4; slot++) {
            check.equal("least of slot " + slot, x.least(slot), slot + 1);
        }
        for (int slot : Use.NO_SLOTS) {
            check.throwsIllegalArgument("least of slot " + slot, () -> x.least(slot));
        }
        check.equal("the word stays", Use.word(x), "dddd");
        Use.feed(x, "abc");
        x.least(1);
        check.equal("the tape stays", Use.fedBefore(x), 3);
    }

    private static void textsByChance(Check check) {
        Texts texts = new Texts(8);
        Reference nothing = Reference.of("0");
        for (int i = 0; i < 1500; i++) {
            String text = texts.right(1 + i % 4);
            leastOf(check, text, Reference.of(text).leastWhere(nothing, true, false));
        }
    }
}
