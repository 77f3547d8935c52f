/** Promise 10: the first word and the last of a length, and what is refused. */
public final class Edge10WordTest {
    public static void main(String[] args) {
        Edges edges = new Edges("Promise 10");
        edges.sentence("The k-th (from 0 on, rising) of them is the word", Edge10WordTest::fromZeroRising);
        edges.sentence("false, with the empty word, when there is none", Edge10WordTest::none);
        edges.sentence("IllegalArgumentException: no such slot", Edge10WordTest::noSuchSlot);
        edges.sentence("IllegalArgumentException: no such length", Edge10WordTest::noSuchLength);
        edges.sentence("IllegalArgumentException: k is below 0", Edge10WordTest::belowZero);
        edges.end();
    }

    private static void wordOf(Check check, WordSets x, int slot, int length, long k, String due) {
        String what = "word " + k + " of length " + length + " of slot " + slot;
        check.equal(what, x.word(slot, length, k), true);
        check.equal(what, Use.word(x), due);
    }

    private static void fromZeroRising(Check check) {
        WordSets x = Use.with("(a|b|c|d)*", "1");
        wordOf(check, x, 0, 0, 0, "");
        wordOf(check, x, 0, 1, 0, "a");
        wordOf(check, x, 0, 1, 3, "d");
        wordOf(check, x, 0, 30, 0, "a".repeat(30));
        wordOf(check, x, 0, 30, 1, "a".repeat(29) + "b");
        wordOf(check, x, 0, 30, (1L << 60) - 1, "d".repeat(30));
        wordOf(check, x, 0, 30, (1L << 60) - 2, "d".repeat(29) + "c");
        wordOf(check, x, 0, 30, 1L << 58, "b" + "a".repeat(29));
        wordOf(check, x, 0, 30, (1L << 58) - 1, "a" + "d".repeat(29));
        wordOf(check, x, 1, 0, 0, "");
        eachOfFew(check);
        // What is told in several ways is one word.
        WordSets twice = Use.with("a|a|(a|b)");
        wordOf(check, twice, 0, 1, 0, "a");
        wordOf(check, twice, 0, 1, 1, "b");
    }

    private static void eachOfFew(Check check) {
        WordSets x = Use.with("(a|b|c|d)*", "1", "d|b|a|c", "cd|ca|dd|ab");
        for (int k = 0; k < 4; k++) {
            wordOf(check, x, 2, 1, k, "abcd".substring(k, k + 1));
            wordOf(check, x, 3, 2, k, new String[] {"ab", "ca", "cd", "dd"}[k]);
        }
        for (int k = 0; k < 16; k++) {
            wordOf(check, x, 0, 2, k, "" + "abcd".charAt(k / 4) + "abcd".charAt(k % 4));
        }
    }

    private static void noneOf(Check check, WordSets x, int slot, int length, long k) {
        String what = "word " + k + " of length " + length + " of slot " + slot;
        x.word(0, 3, 5);
        check.equal("the word before", x.size(), 3);
        check.equal(what, x.word(slot, length, k), false);
        check.equal(what + ", the word", x.size(), 0);
    }

    private static void none(Check check) {
        WordSets x = Use.with("(a|b|c|d)*", "1", "0", "d|ab|a|ac");
        for (int length = 0; length <= 30; length++) {
            noneOf(check, x, 0, length, 1L << 2 * length);
            check.equal("the last of length " + length, x.word(0, length, (1L << 2 * length) - 1), true);
            noneOf(check, x, 2, length, 0);
        }
        for (long k : new long[] {(1L << 60) + 1, 1L << 61, 1L << 62, Long.MAX_VALUE}) {
            noneOf(check, x, 0, 30, k);
        }
        for (long k : new long[] {1, 1L << 32, 1L << 31, Long.MAX_VALUE}) {
            noneOf(check, x, 0, 0, k);
            noneOf(check, x, 1, 0, k);
        }
        noneOf(check, x, 1, 1, 0);
        noneOf(check, x, 1, 30, 0);
        noneOf(check, x, 3, 0, 0);
        noneOf(check, x, 3, 1, 2);
        noneOf(check, x, 3, 2, 2);
        noneOf(check, x, 3, 3, 0);
    }

    private static void noSuchSlot(Check check) {
        for (int slot : Use.NO_SLOTS) {
            for (long k : new long[] {0, 1, Long.MAX_VALUE, -1}) {
                Refused.leavesAll(check, "word of slot " + slot, x -> x.word(slot, 0, k));
                Refused.leavesAll(check, "word of slot " + slot, x -> x.word(slot, 30, k));
            }
        }
        int[] lengths = {1, 1, 0, 3};
        for (int slot = 0; slot <= 3; slot++) {
            check.equal("word of slot " + slot, Refused.lived("").word(slot, lengths[slot], 0), true);
        }
    }

    private static void noSuchLength(Check check) {
        for (int length : new int[] {-1, 31, 32, -30, 256, Integer.MIN_VALUE, Integer.MAX_VALUE}) {
            for (long k : new long[] {0, 1, Long.MAX_VALUE, -1}) {
                Refused.leavesAll(check, "word of length " + length, x -> x.word(1, length, k));
                Refused.leavesAll(check, "word of length " + length, x -> x.word(2, length, k));
            }
        }
        check.equal("length 0", Refused.lived("").word(2, 0, 0), true);
        check.equal("length 30", Refused.lived("").word(1, 30, 0), true);
    }

    private static void belowZero(Check check) {
        for (long k : new long[] {-1, -2, -1L << 32, Integer.MIN_VALUE, Long.MIN_VALUE, Long.MIN_VALUE + 1}) {
            for (int slot = 0; slot <= 3; slot++) {
                for (int length : new int[] {0, 3, 30}) {
                    int at = slot;
                    Refused.leavesAll(check, "word " + k, x -> x.word(at, length, k));
                }
            }
        }
        for (int slot = 0; slot <= 3; slot++) {
            check.equal("word 0", Refused.lived("").word(slot, 0, 0), slot == 2);
        }
    }
}
