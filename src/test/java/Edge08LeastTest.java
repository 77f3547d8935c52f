/** Promise 8: no word, the empty word, and what is refused. */
public final class Edge08LeastTest {
    public static void main(String[] args) {
        Edges edges = new Edges("Promise 8");
        edges.sentence("The length of the least word that a slot tells, which is the word", Edge08LeastTest::theLeast);
        edges.sentence("-1 (and the empty word) when there is none", Edge08LeastTest::none);
        edges.sentence("IllegalArgumentException: no such slot", Edge08LeastTest::noSuchSlot);
        edges.end();
    }

    private static void leastOf(Check check, String text, int length, String word) {
        for (int slot = 0; slot <= 3; slot++) {
            WordSets x = new WordSets();
            Use.read(x, slot, "dcb");
            x.least(slot);
            Use.read(x, slot, text);
            check.equal("the word before", Use.word(x), "dcb");
            check.equal("least of " + text, x.least(slot), length);
            check.equal("least of " + text, Use.word(x), word);
        }
    }

    private static void theLeast(Check check) {
        leastOf(check, "1", 0, "");
        leastOf(check, "0*", 0, "");
        leastOf(check, "a*", 0, "");
        leastOf(check, "a", 1, "a");
        leastOf(check, "d", 1, "d");
        leastOf(check, "d|aa", 1, "d");
        leastOf(check, "d|c|b", 1, "b");
        leastOf(check, "da|cd", 2, "cd");
        leastOf(check, "abcdabcd", 8, "abcdabcd");
        leastOf(check, "(abcdabcd)+", 8, "abcdabcd");
        leastOf(check, "dddddddd", 8, "dddddddd");
    }

    private static void none(Check check) {
        for (String text : new String[] {"0", "0+", "00", "0|0", "a0", "0a", "(ab)*0", "0(a|1)", "(0)+?0"}) {
            leastOf(check, text, -1, "");
        }
        for (int slot = 0; slot <= 3; slot++) {
            check.equal("a slot never read", new WordSets().least(slot), -1);
        }
    }

    private static void noSuchSlot(Check check) {
        for (int slot : Use.NO_SLOTS) {
            Refused.leavesAll(check, "least of slot " + slot, x -> x.least(slot));
        }
        int[] due = {1, 1, 0, 3};
        for (int slot = 0; slot <= 3; slot++) {
            check.equal("least of slot " + slot, Refused.lived("").least(slot), due[slot]);
        }
    }
}
