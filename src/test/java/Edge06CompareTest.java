/** Promise 6: the empty word when there is no difference, and what is refused. */
public final class Edge06CompareTest {
    public static void main(String[] args) {
        Edges edges = new Edges("Promise 6");
        edges.sentence(
                "0 two slots tell the same words (the word is empty then)", Edge06CompareTest::theSameWords);
        edges.sentence(
                "otherwise the word is the least one that one of them alone tells: 1 the first, 2 the second",
                Edge06CompareTest::theLeast);
        edges.sentence("IllegalArgumentException: no such slot", Edge06CompareTest::noSuchSlot);
        edges.end();
    }

    private static void theSameWords(Check check) {
        String[][] pairs = {
            {"a", "a"}, {"0", "a0"}, {"1", "0*"}, {"a*", "1|a+"}, {"(a|b)*", "(a*b)*a*"}, {"a|b", "b|a"},
            {"(a|b|c|d)*", "((a|b|c|d)+)?"}, {"abcdabcd", "((a)b)c(da)bcd"},
        };
        for (String[] pair : pairs) {
            for (int a = 0; a <= 3; a++) {
                for (int b = 0; b <= 3; b++) {
                    WordSets x = new WordSets();
                    Use.read(x, a, "dcb");
                    x.least(a);
                    Use.read(x, a, pair[0]);
                    if (a != b) {
                        Use.read(x, b, pair[1]);
                    }
                    check.equal("the word before", x.size(), 3);
                    check.equal(pair[0] + " and " + pair[1], x.compare(a, b), 0);
                    check.equal("the word is empty", x.size(), 0);
                }
            }
        }
    }

    private static void theLeast(Check check) {
        String[][] pairs = {
            // The one that tells the word alone, the other, the word.
            {"1", "0", ""}, {"a*", "a+", ""}, {"1", "a", ""}, {"a|1", "1", "a"}, {"a", "b", "a"}, {"a", "d", "a"},
            {"b", "aa", "b"}, {"ab", "ac", "ab"}, {"da", "db", "da"}, {"abcdabcd", "abcdabc", "abcdabc"},
            {"(aaaaaaaa)*", "1", "aaaaaaaa"}, {"a*", "a?", "aa"}, {"(a|b)*", "(a|b)*a|1", "b"},
        };
        for (String[] pair : pairs) {
            boolean swapped = pair[0].equals("abcdabcd");
            for (int a = 0; a <= 3; a++) {
                int b = (a + 1) % 4;
                WordSets x = new WordSets();
                Use.read(x, a, pair[0]);
                Use.read(x, b, pair[1]);
                check.equal(pair[0] + " and " + pair[1], x.compare(a, b), swapped ? 2 : 1);
                check.equal(pair[0] + " and " + pair[1], Use.word(x), pair[2]);
                check.equal(pair[1] + " and " + pair[0], x.compare(b, a), swapped ? 1 : 2);
                check.equal(pair[1] + " and " + pair[0], Use.word(x), pair[2]);
            }
        }
    }

    private static void noSuchSlot(Check check) {
        for (int slot : Use.NO_SLOTS) {
            for (int other = 0; other <= 3; other++) {
                int good = other;
                Refused.leavesAll(check, "compare " + slot + " " + other, x -> x.compare(slot, good));
                Refused.leavesAll(check, "compare " + other + " " + slot, x -> x.compare(good, slot));
            }
            Refused.leavesAll(check, "compare " + slot + " " + slot, x -> x.compare(slot, slot));
        }
        for (int slot = 0; slot <= 3; slot++) {
            check.equal("compare with itself", Refused.lived("").compare(slot, slot), 0);
            check.equal("the first and another", Refused.lived("").compare(slot, (slot + 1) % 4) > 0, true);
        }
    }
}
