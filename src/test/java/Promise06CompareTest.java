/** Promise 6: compare. */
public final class Promise06CompareTest {
    public static void main(String[] args) {
        Check check = new Check("compare");
        same(check, "(a|b)*", "(a*b*)*");
        same(check, "1", "0*");
        same(check, "0", "a0b");
        same(check, "a(b|c)*d?", "a(b*c*)*(d|1)");
        same(check, "((a|b)(a|b))*", "(ab|ba|aa|bb)*");
        same(check, "a+", "aa*");
        same(check, "(a0)*", "1");
        same(check, "a?", "a|1");
        apart(check, "1", "a?", 2, "a");
        apart(check, "a?", "a+", 1, "");
        apart(check, "0", "1", 2, "");
        apart(check, "0", "d|cc", 2, "d");
        apart(check, "b|c", "a|c", 2, "a");
        apart(check, "aa|b", "ab|b", 1, "aa");
        apart(check, "(aaa)*", "(aaaaa)*", 1, "aaa");
        apart(check, "((aaa)*|(aaaaa)*)", "a*", 2, "a");
        apart(check, "abcdabcd", "abcdabcc", 2, "abcdabcc");
        apart(check, "(aaaaaaaa)*", "(aaaa)*", 2, "aaaa");
        apart(check, "(a|b)*", "(a|b)*c?", 2, "c");
        apart(check, "a(aaa)*|a(aa)*", "(aa)*a|a(aaa)*b?", 2, "ab");
        apart(check, "(aaa)*(aaaaa)*", "(aaa)*(aaaaa)?", 1, "a".repeat(10));
        slotsAndWord(check);
        pairsByChance(check);
        check.end();
    }

    private static void same(Check check, String one, String other) {
        WordSets x = Use.with(one, other, "d");
        x.least(2);
        check.equal(one + " and " + other, x.compare(0, 1), 0);
        check.equal("the word is empty", x.size(), 0);
        x.least(2);
        check.equal(other + " and " + one, x.compare(1, 0), 0);
        check.equal("the word is empty", x.size(), 0);
    }

    private static void apart(Check check, String one, String other, int due, String word) {
        WordSets x = Use.with(one, other, "dddd");
        x.least(2);
        check.equal(one + " and " + other, x.compare(0, 1), due);
        check.equal(one + " and " + other, Use.word(x), word);
        x.least(2);
        check.equal(other + " and " + one, x.compare(1, 0), 3 - due);
        check.equal(other + " and " + one, Use.word(x), word);
    }

    private static void slotsAndWord(Check check) {
        WordSets x = Use.with("a", "b", "cc", "ddd");
        for (int a = 0; a < 4; a++) {
            for (int b = 0; b < 4; b++) {
                check.equal("compare " + a + " " + b, x.compare(a, b), a == b ? 0 : a < b ? 1 : 2);
            }
        }
        x.least(3);
        for (int slot : Use.NO_SLOTS) {
            check.throwsIllegalArgument("compare " + slot + " 0", () -> x.compare(slot, 0));
            check.throwsIllegalArgument("compare 0 " + slot, () -> x.compare(0, slot));
            check.throwsIllegalArgument("compare with itself", () -> x.compare(slot, slot));
        }
        check.equal("the word stays", Use.word(x), "ddd");
        Use.feed(x, "ab");
        x.compare(0, 1);
        check.equal("the tape stays", Use.fedBefore(x), 2);
    }

    private static void pairsByChance(Check check) {
        Texts texts = new Texts(6);
        for (int i = 0; i < 2500; i++) {
            int alphabet = 1 + i % 4;
            String one = texts.right(alphabet);
            String other = texts.right(alphabet);
            WordSets x = Use.with(one, other);
            Reference first = Reference.of(one);
            Reference second = Reference.of(other);
            String mine = first.leastWhere(second, true, false);
            String others = first.leastWhere(second, false, true);
            int due = mine == null && others == null ? 0 : Reference.isLess(mine, others) ? 1 : 2;
            String word = due == 0 ? "" : due == 1 ? mine : others;
            check.equal(one + " and " + other, x.compare(0, 1), due);
            check.equal(one + " and " + other, Use.word(x), word);
        }
    }
}
