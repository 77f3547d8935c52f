/** Promise 7: contains. */
public final class Promise07ContainsTest {
    public static void main(String[] args) {
        Check check = new Check("contains");
        holds(check, "(a|b)*", "(a|b)*abb");
        holds(check, "a", "0");
        holds(check, "0", "0");
        holds(check, "a*", "1");
        holds(check, "(a|b|c|d)*", "a(b|c)+d?");
        holds(check, "((a|b)(a|b))*", "(ab)*");
        lacks(check, "(a|b)*abb", "(a|b)*", "");
        lacks(check, "0", "1", "");
        lacks(check, "((a|b)(a|b))*", "((a|b)(a|b)(a|b))*", "aaa");
        lacks(check, "a(b|c)*d?", "a(b*c*)*(d|1)d", "add");
        lacks(check, "a|b", "b|d|c", "c");
        lacks(check, "aa|ab|c", "aa|ad|ac", "ac");
        lacks(check, "a(a|aa|aaaa)?", "a*", "");
        lacks(check, "(aa)*a|1", "(aaa)*", "aaaaaa");
        // The first that lacks: a common multiple of both lengths.
        lacks(check, "(aaaa)*aa?a?", "(aaaaaaa)+", "a".repeat(28));
        hardPairs(check);
        slotsAndWord(check);
        pairsByChance(check);
        check.end();
    }

    private static void holds(Check check, String one, String of) {
        WordSets x = Use.with(one, of, "dd");
        x.least(2);
        check.equal(one + " contains " + of, x.contains(0, 1), true);
        check.equal("the word is empty", x.size(), 0);
        x.least(2);
        check.equal("contains itself", x.contains(0, 0), true);
        check.equal("the word is empty", x.size(), 0);
    }

    private static void lacks(Check check, String one, String of, String word) {
        WordSets x = Use.with(one, of, "dd");
        x.least(2);
        check.equal(one + " contains " + of, x.contains(0, 1), false);
        check.equal(one + " contains " + of, Use.word(x), word);
    }

    /** Found by search: words of more than 30 letters, and far more pairs of states than most have. */
    private static void hardPairs(Check check) {
        String[][] pairs = {
            {"(b*)a+((b)+)*(((a)(b)*a)+)b*a+", "(b((b)(a)(a(aaaa)+)+))+"},
            {"((ab*a(ba?)*a)*a)?(a*)", "(aab(aa(aa)a)++)+"},
            {"((ab?))?*((b(a)+?b)+a?+??)?(a*b)*", "((((aaaaaa)+a)+)b+)*"},
            {"a*+(b*a)(a)+(ba+((b+)+a*)?+)?", "(((b?(aaaaaa)+a))++)+"},
            {"(b+(a+b+(a+b+)?)?a)*(ab+)*", "((b+a*ba*b)+(ab+a)+)+"},
            {"(a*(b+a*b)+a*b)*(ba*)*", "((ab*aa+)*b+a*b)*b"},
        };
        WordSets x = new WordSets();
        for (String[] pair : pairs) {
            Use.read(x, 0, pair[0]);
            Use.read(x, 1, pair[1]);
            String due = Reference.of(pair[0]).leastWhere(Reference.of(pair[1]), false, true);
            check.equal(pair[0] + " contains " + pair[1], x.contains(0, 1), due == null);
            check.equal(pair[0] + " contains " + pair[1], Use.word(x), due == null ? "" : due);
        }
        Use.read(x, 0, pairs[0][0]);
        Use.read(x, 1, pairs[0][1]);
        x.contains(0, 1);
        check.equal("a word of more than 30 letters", x.size(), 45);
        check.equal("its last letter", x.letter(44) >= 0, true);
        check.throwsA("letter 45", IndexOutOfBoundsException.class, () -> x.letter(45));
    }

    private static void slotsAndWord(Check check) {
        WordSets x = Use.with("a", "a|b", "a|b|c", "dd");
        for (int a = 0; a < 3; a++) {
            for (int of = 0; of < 3; of++) {
                check.equal("contains " + a + " " + of, x.contains(a, of), a >= of);
            }
        }
        x.least(3);
        for (int slot : Use.NO_SLOTS) {
            check.throwsIllegalArgument("contains " + slot + " 0", () -> x.contains(slot, 0));
            check.throwsIllegalArgument("contains 0 " + slot, () -> x.contains(0, slot));
        }
        check.equal("the word stays", Use.word(x), "dd");
        Use.feed(x, "abc");
        x.contains(0, 1);
        check.equal("the tape stays", Use.fedBefore(x), 3);
    }

    private static void pairsByChance(Check check) {
        Texts texts = new Texts(7);
        for (int i = 0; i < 2500; i++) {
            int alphabet = 1 + i % 4;
            String one = texts.right(alphabet);
            String of = texts.right(alphabet);
            WordSets x = Use.with(one, of);
            String due = Reference.of(one).leastWhere(Reference.of(of), false, true);
            check.equal(one + " contains " + of, x.contains(0, 1), due == null);
            check.equal(one + " contains " + of, Use.word(x), due == null ? "" : due);
        }
    }
}
