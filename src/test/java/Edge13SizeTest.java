/** Promise 13: the size of the empty word, of the longest ones, and behind refused calls. */
public final class Edge13SizeTest {
    // The least word that the first lacks has 45 letters, more than any that word() gives.
    private static final String LACKS = "(b*)a+((b)+)*(((a)(b)*a)+)b*a+";
    private static final String LONG = "(b((b)(a)(a(aaaa)+)+))+";

    public static void main(String[] args) {
        Edges edges = new Edges("Promise 13");
        edges.sentence("How many letters the word has", Edge13SizeTest::howManyLetters);
        edges.sentence("How many letters the word has: the empty word", Edge13SizeTest::theEmptyWord);
        edges.sentence("How many letters the word has: behind refused calls", Edge13SizeTest::refusedCalls);
        edges.end();
    }

    private static void howManyLetters(Check check) {
        WordSets x = Use.with("(a|b|c|d)*", "dcbadcba", LACKS, LONG);
        for (int length = 0; length <= 30; length++) {
            x.word(0, length, 0);
            check.equal("behind word of length " + length, x.size(), length);
            check.equal("again", x.size(), length);
        }
        x.contains(2, 3);
        check.equal("behind contains", x.size(), 45);
        x.least(1);
        check.equal("behind least", x.size(), 8);
        x.compare(0, 1);
        check.equal("behind compare", x.size(), 0);
        x.compare(1, 2);
        check.equal("behind compare", x.size(), 4);
        x.contains(2, 3);
        check.equal("a long word again", x.size(), 45);
        x.word(0, 30, 7);
        check.equal("a shorter one behind it", x.size(), 30);
    }

    private static void theEmptyWord(Check check) {
        WordSets x = new WordSets();
        check.equal("at first", x.size(), 0);
        Use.read(x, 0, "abc");
        Use.read(x, 1, "1");
        emptied(check, "compare of the same", x, () -> x.compare(0, 0));
        emptied(check, "compare that parts in the empty word", x, () -> x.compare(0, 1));
        emptied(check, "contains all", x, () -> x.contains(0, 2));
        emptied(check, "contains all but the empty word", x, () -> x.contains(0, 1));
        emptied(check, "least of no word", x, () -> x.least(2));
        emptied(check, "least that is empty", x, () -> x.least(1));
        emptied(check, "word that is empty", x, () -> x.word(1, 0, 0));
        emptied(check, "no such word", x, () -> x.word(0, 3, 1));
        emptied(check, "no such word", x, () -> x.word(0, 30, 0));
    }

    private static void emptied(Check check, String what, WordSets x, Check.Call call) {
        x.least(0);
        check.equal("before " + what, x.size(), 3);
        call.make();
        check.equal("behind " + what, x.size(), 0);
    }

    private static void refusedCalls(Check check) {
        WordSets x = Refused.lived("a");
        Check.Call[] calls = {
            () -> x.feed(0, 0), () -> x.feed(0, 9), () -> x.has(4), () -> x.compare(0, 4), () -> x.compare(-1, 0),
            () -> x.contains(0, 4), () -> x.contains(-1, 0), () -> x.least(4), () -> x.least(-1),
            () -> x.count(0, 31), () -> x.count(4, 0), () -> x.word(0, 31, 0), () -> x.word(0, -1, 0),
            () -> x.word(0, 0, -1), () -> x.word(4, 0, 0), () -> x.states(4), () -> x.turn(0, 4),
            () -> x.turn(4, 0), () -> x.read(4), () -> x.read(0),
        };
        for (int i = 0; i < calls.length; i++) {
            check.throwsIllegalArgument("refused call " + i, calls[i]);
            check.equal("behind refused call " + i, x.size(), 3);
            check.equal("behind refused call " + i, Use.word(x), Refused.WORD);
        }
        check.throwsA("letter 3", IndexOutOfBoundsException.class, () -> x.letter(3));
        check.equal("behind letter 3", x.size(), 3);
    }
}
