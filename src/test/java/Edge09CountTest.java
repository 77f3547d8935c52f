/** Promise 9: the lengths, and what is refused. */
public final class Edge09CountTest {
    private static final int[] NO_LENGTHS = {-1, 31, 32, -30, 256, Integer.MIN_VALUE, Integer.MAX_VALUE};

    public static void main(String[] args) {
        Edges edges = new Edges("Promise 9");
        edges.sentence("How many words of a length (0 .. 30) a slot tells", Edge09CountTest::lengths);
        edges.sentence("IllegalArgumentException: no such slot", Edge09CountTest::noSuchSlot);
        edges.sentence("IllegalArgumentException: no such length", Edge09CountTest::noSuchLength);
        edges.end();
    }

    private static void lengths(Check check) {
        WordSets x = Use.with("(a|b|c|d)*", "1", "0", "(a|b)*(c|1)");
        check.equal("length 0 of all words", x.count(0, 0), 1);
        check.equal("length 30 of all words", x.count(0, 30), 1L << 60);
        check.equal("length 29 of all words", x.count(0, 29), 1L << 58);
        check.equal("length 0 of the empty word", x.count(1, 0), 1);
        check.equal("length 1 of the empty word", x.count(1, 1), 0);
        check.equal("length 30 of the empty word", x.count(1, 30), 0);
        check.equal("length 0 of no word", x.count(2, 0), 0);
        check.equal("length 30 of no word", x.count(2, 30), 0);
        check.equal("length 0", x.count(3, 0), 1);
        check.equal("length 1", x.count(3, 1), 3);
        check.equal("length 30", x.count(3, 30), (1L << 30) + (1L << 29));
        // The other way round, so that nothing hangs on the longer ones coming later.
        for (int length = 30; length >= 0; length--) {
            check.equal("length " + length, x.count(0, length), 1L << 2 * length);
        }
        WordSets once = Use.with("a+", "a|a|a", "(a|b)(a|b)?", "(aaaaaaaa)*");
        for (int length = 0; length <= 30; length++) {
            check.equal("a+ of length " + length, once.count(0, length), length == 0 ? 0 : 1);
            check.equal("a|a|a of length " + length, once.count(1, length), length == 1 ? 1 : 0);
            check.equal("two letters, " + length, once.count(2, length), length == 1 ? 2 : length == 2 ? 4 : 0);
            check.equal("by eights, " + length, once.count(3, length), length % 8 == 0 ? 1 : 0);
        }
    }

    private static void noSuchSlot(Check check) {
        for (int slot : Use.NO_SLOTS) {
            for (int length : new int[] {0, 1, 30}) {
                Refused.leavesAll(check, "count of slot " + slot, x -> x.count(slot, length));
            }
            for (int length : NO_LENGTHS) {
                Refused.leavesAll(check, "count of slot " + slot, x -> x.count(slot, length));
            }
        }
        long[] due = {1, 0, 0, 0};
        for (int slot = 0; slot <= 3; slot++) {
            check.equal("count of slot " + slot, Refused.lived("").count(slot, 2), slot == 1 ? 2 : due[slot]);
        }
    }

    private static void noSuchLength(Check check) {
        for (int length : NO_LENGTHS) {
            for (int slot = 0; slot <= 3; slot++) {
                int at = slot;
                Refused.leavesAll(check, "length " + length, x -> x.count(at, length));
            }
        }
        for (int slot = 0; slot <= 3; slot++) {
            check.equal("length 0", Refused.lived("").count(slot, 0), slot == 2 ? 1 : 0);
            check.equal("length 30", Refused.lived("").count(slot, 30), new long[] {0, 1L << 29, 0, 2}[slot]);
        }
    }
}
