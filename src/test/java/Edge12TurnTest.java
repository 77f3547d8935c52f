import java.util.Arrays;
import java.util.List;

/** Promise 12: words backwards between all slots, and what is refused. */
public final class Edge12TurnTest {
    public static void main(String[] args) {
        Edges edges = new Edges("Promise 12");
        edges.sentence("it tells all words backwards", Edge12TurnTest::allWordsBackwards);
        edges.sentence("becomes that of another one", Edge12TurnTest::theOtherAlone);
        edges.sentence("IllegalArgumentException: no such slot", Edge12TurnTest::noSuchSlot);
        edges.end();
    }

    private static void turned(Check check, String text, String due) {
        for (int slot = 0; slot <= 3; slot++) {
            for (int to = 0; to <= 3; to++) {
                WordSets x = new WordSets();
                Use.read(x, slot, text);
                x.turn(slot, to);
                Use.read(x, (to + 1) % 4, due);
                check.equal(text + " turned, from " + slot + " to " + to, x.compare(to, (to + 1) % 4), 0);
                x.turn(to, to);
                Use.read(x, (to + 2) % 4, text);
                check.equal(text + " turned twice", x.compare(to, (to + 2) % 4), 0);
            }
        }
    }

    private static void allWordsBackwards(Check check) {
        turned(check, "0", "0");
        turned(check, "1", "1");
        turned(check, "a0", "0");
        turned(check, "a", "a");
        turned(check, "ab", "ba");
        turned(check, "abcdabcd", "dcbadcba");
        turned(check, "a*", "a*");
        turned(check, "ab*", "b*a");
        turned(check, "ab?|1", "b?a|1");
        turned(check, "((((((((a)b)c)d)a)b)c)d)", "dcbadcba");
        turned(check, "(ab|cd)+", "(ba|dc)+");
        turned(check, "a|bc|bcd", "dcb|cb|a");
        turned(check, "(a0|b)c", "cb");
        List<String> words = Arrays.asList("", "a", "ad", "cab");
        WordSets x = Use.with("1|ad?|cab", "0", "0", "0");
        x.turn(0, 3);
        for (String word : words) {
            String backwards = new StringBuilder(word).reverse().toString();
            check.equal(backwards, Use.has(x, 3, backwards), true);
            check.equal(word, Use.has(x, 3, word), word.length() < 2);
        }
    }

    /** Only the slot that it goes to changes, and later on the two are apart. */
    private static void theOtherAlone(Check check) {
        for (int slot = 0; slot <= 3; slot++) {
            for (int to = 0; to <= 3; to++) {
                WordSets x = Use.with("ab", "abb", "abbb", "abbbb");
                x.turn(slot, to);
                for (int other = 0; other <= 3; other++) {
                    String own = "a" + "b".repeat(other + 1);
                    String due = other == to ? "b".repeat(slot + 1) + "a" : own;
                    x.least(other);
                    check.equal("slot " + other + " behind turn " + slot + " " + to, Use.word(x), due);
                }
                if (slot != to) {
                    Use.read(x, slot, "dd");
                    check.equal("the other one is its own", x.least(to), slot + 2);
                    Use.read(x, to, "d");
                    check.equal("the first one is its own", x.least(slot), 2);
                }
            }
        }
        WordSets x = Refused.lived("dc");
        x.turn(0, 1);
        check.equal("the word stays", Use.word(x), Refused.WORD);
        check.equal("place stays", x.place(), Refused.PLACE);
        check.equal("the tape stays", Use.fedBefore(x), 2);
    }

    private static void noSuchSlot(Check check) {
        for (int slot : Use.NO_SLOTS) {
            for (int other = 0; other <= 3; other++) {
                int good = other;
                Refused.leavesAll(check, "turn " + slot + " " + other, x -> x.turn(slot, good));
                Refused.leavesAll(check, "turn " + other + " " + slot, x -> x.turn(good, slot));
            }
            Refused.leavesAll(check, "turn " + slot + " " + slot, x -> x.turn(slot, slot));
        }
    }
}
