import java.util.List;

/** Promise 10: word. */
public final class Promise10WordTest {
    public static void main(String[] args) {
        Check check = new Check("word");
        WordSets x = Use.with("(a|b)*abb", "(a|b|c|d)*", "1", "d|c|ab");
        wordOf(check, x, 0, 5, 0, "aaabb");
        wordOf(check, x, 0, 5, 2, "baabb");
        wordOf(check, x, 0, 5, 3, "bbabb");
        wordOf(check, x, 0, 5, 4, null);
        wordOf(check, x, 1, 30, 0, "a".repeat(30));
        wordOf(check, x, 1, 30, (1L << 60) - 1, "d".repeat(30));
        wordOf(check, x, 1, 30, 1L << 59, "c" + "a".repeat(29));
        wordOf(check, x, 1, 30, 1L << 60, null);
        wordOf(check, x, 1, 30, Long.MAX_VALUE, null);
        wordOf(check, x, 1, 0, 0, "");
        wordOf(check, x, 1, 0, 1, null);
        wordOf(check, x, 2, 0, 0, "");
        wordOf(check, x, 2, 1, 0, null);
        wordOf(check, x, 3, 1, 0, "c");
        wordOf(check, x, 3, 1, 1, "d");
        wordOf(check, x, 3, 1, 2, null);
        wordOf(check, x, 3, 2, 0, "ab");
        wordOf(check, x, 3, 0, 0, null);
        wrongArguments(check);
        textsByChance(check);
        check.end();
    }

    private static void wordOf(Check check, WordSets x, int slot, int length, long k, String due) {
        String what = "word(" + slot + ", " + length + ", " + k + ")";
        x.word(3, 1, 1);
        check.equal(what, x.word(slot, length, k), due != null);
        check.equal(what, Use.word(x), due == null ? "" : due);
    }

    private static void wrongArguments(Check check) {
        WordSets x = Use.with("(a|b)*");
        x.word(0, 3, 5);
        for (int slot : Use.NO_SLOTS) {
            check.throwsIllegalArgument("slot " + slot, () -> x.word(slot, 1, 0));
        }
        for (int length : new int[] {-1, 31, Integer.MIN_VALUE, Integer.MAX_VALUE}) {
            check.throwsIllegalArgument("length " + length, () -> x.word(0, length, 0));
        }
        for (long k : new long[] {-1, Long.MIN_VALUE, -1L << 32}) {
            check.throwsIllegalArgument("k " + k, () -> x.word(0, 1, k));
        }
        check.equal("the word stays", Use.word(x), "bab");
        Use.feed(x, "abc");
        x.word(0, 2, 1);
        check.equal("the tape stays", Use.fedBefore(x), 3);
        check.equal("a k beyond int", x.word(0, 30, 1L << 32), false);
        check.equal("the word is empty", x.size(), 0);
    }

    private static void textsByChance(Check check) {
        Texts texts = new Texts(10);
        for (int i = 0; i < 600; i++) {
            String text = texts.right(1 + i % 4);
            WordSets x = Use.with(text);
            int length = texts.below(6);
            List<String> due = Reference.of(text).words(length);
            for (int k = 0; k < due.size() && k < 25; k++) {
                check.equal(text, x.word(0, length, k), true);
                check.equal(text + " word " + k + " of length " + length, Use.word(x), due.get(k));
            }
            check.equal(text, x.word(0, length, due.size()), false);
            check.equal(text, x.size(), 0);
            longWordsAreTold(check, texts, x, text);
        }
    }

    private static void longWordsAreTold(Check check, Texts texts, WordSets x, String text) {
        int length = 20 + texts.below(11);
        long count = x.count(0, length);
        String before = "";
        for (long k = Math.max(0, count - 3); k < count; k++) {
            check.equal(text, x.word(0, length, k), true);
            String word = Use.word(x);
            check.equal(text + " has " + word, Use.has(x, 0, word), true);
            check.equal(before + " is less than " + word, before.compareTo(word) < 0, true);
            before = word;
        }
    }
}
