/** Promise 7: the empty word when all is told, and what is refused. */
public final class Edge07ContainsTest {
    public static void main(String[] args) {
        Edges edges = new Edges("Promise 7");
        edges.sentence(
                "Whether a slot tells all words of another one (the word is empty then)",
                Edge07ContainsTest::allWords);
        edges.sentence("otherwise the word is the least that it does not", Edge07ContainsTest::theLeast);
        edges.sentence("IllegalArgumentException: no such slot", Edge07ContainsTest::noSuchSlot);
        edges.end();
    }

    private static void allWords(Check check) {
        String[][] pairs = {
            {"a", "a"}, {"0", "0"}, {"1", "0"}, {"1", "1"}, {"a*", "1"}, {"a*", "a+"}, {"a|b", "b"}, {"a", "0"},
            {"(a|b|c|d)*", "abcdabcd"}, {"(a|b)*", "(ab)*|b+"}, {"a?", "a"},
        };
        for (String[] pair : pairs) {
            for (int a = 0; a <= 3; a++) {
                int of = (a + 3) % 4;
                WordSets x = new WordSets();
                Use.read(x, a, "dcb");
                x.least(a);
                Use.read(x, a, pair[0]);
                Use.read(x, of, pair[1]);
                check.equal("the word before", x.size(), 3);
                check.equal(pair[0] + " contains " + pair[1], x.contains(a, of), true);
                check.equal("the word is empty", x.size(), 0);
                x.word(a, pair[0].equals("a") ? 1 : 0, 0);
                check.equal("a slot contains itself", x.contains(a, a), true);
                check.equal("the word is empty", x.size(), 0);
            }
        }
    }

    private static void theLeast(Check check) {
        String[][] pairs = {
            // The one that lacks a word, the other, the word.
            {"0", "1", ""}, {"a+", "a*", ""}, {"a", "1|b", ""}, {"1", "a*", "a"}, {"a", "b|c", "b"}, {"b", "a|b", "a"},
            {"a*", "a*d", "d"}, {"c|aa", "b|aa|ab|c", "b"}, {"abcdabc", "abcdabcd", "abcdabcd"},
            {"(aa)*", "(aaa)*", "aaa"}, {"(a|b)?", "(a|b)*", "aa"},
        };
        for (String[] pair : pairs) {
            for (int a = 0; a <= 3; a++) {
                int of = (a + 2) % 4;
                WordSets x = new WordSets();
                Use.read(x, a, "dcb");
                x.least(a);
                Use.read(x, a, pair[0]);
                Use.read(x, of, pair[1]);
                check.equal(pair[0] + " contains " + pair[1], x.contains(a, of), false);
                check.equal(pair[0] + " contains " + pair[1], Use.word(x), pair[2]);
            }
        }
        // A less word that only the first one tells is no matter.
        WordSets x = Use.with("a|c", "c|d");
        check.equal("a|c contains c|d", x.contains(0, 1), false);
        check.equal("a|c contains c|d", Use.word(x), "d");
    }

    private static void noSuchSlot(Check check) {
        for (int slot : Use.NO_SLOTS) {
            for (int other = 0; other <= 3; other++) {
                int good = other;
                Refused.leavesAll(check, "contains " + slot + " " + other, x -> x.contains(slot, good));
                Refused.leavesAll(check, "contains " + other + " " + slot, x -> x.contains(good, slot));
            }
            Refused.leavesAll(check, "contains " + slot + " " + slot, x -> x.contains(slot, slot));
        }
        for (int slot = 0; slot <= 3; slot++) {
            check.equal("contains itself", Refused.lived("").contains(slot, slot), true);
        }
    }
}
