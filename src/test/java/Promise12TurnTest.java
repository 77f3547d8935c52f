import java.util.ArrayList;
import java.util.Collections;
import java.util.List;

/** Promise 12: turn. */
public final class Promise12TurnTest {
    public static void main(String[] args) {
        Check check = new Check("turn");
        turned(check, "0", "0");
        turned(check, "1", "1");
        turned(check, "a", "a");
        turned(check, "abcd", "dcba");
        turned(check, "(a|b)*abb", "bba(a|b)*");
        turned(check, "ab|cd", "ba|dc");
        turned(check, "(ab)+c?", "c?(ba)+");
        turned(check, "(a(bc)*d)*", "(d(cb)*a)*");
        turned(check, "a0|bc", "cb");
        turned(check, "(0a)?bc", "cb");
        turned(check, "abcdabcd", "dcbadcba");
        slots(check);
        leavesOtherThingsAlone(check);
        textsByChance(check);
        check.end();
    }

    private static void turned(Check check, String text, String due) {
        WordSets x = Use.with(text, "d", due);
        x.turn(0, 1);
        check.equal("turned " + text, x.compare(1, 2), 0);
        check.equal("states of turned " + text, x.states(1), x.states(2));
        x.turn(1, 3);
        check.equal("turned twice " + text, x.compare(0, 3), 0);
        x.turn(0, 0);
        check.equal("turned in its place " + text, x.compare(0, 2), 0);
    }

    private static void slots(Check check) {
        WordSets x = Use.with("ab", "cd");
        for (int slot : Use.NO_SLOTS) {
            check.throwsIllegalArgument("turn " + slot + " 1", () -> x.turn(slot, 1));
            check.throwsIllegalArgument("turn 0 " + slot, () -> x.turn(0, slot));
        }
        check.equal("slot 0 stays", Use.has(x, 0, "ab"), true);
        check.equal("slot 1 stays", Use.has(x, 1, "cd"), true);
        x.turn(0, 1);
        check.equal("slot 0 stays", Use.has(x, 0, "ab"), true);
        check.equal("slot 0 stays", Use.has(x, 0, "ba"), false);
        check.equal("slot 1 is new", Use.has(x, 1, "ba"), true);
        check.equal("slot 1 is new", Use.has(x, 1, "cd"), false);
        Use.read(x, 0, "dd");
        check.equal("slot 1 is its own", Use.has(x, 1, "ba"), true);
        x.turn(1, 2);
        Use.read(x, 1, "dd");
        check.equal("slot 2 is its own", Use.has(x, 2, "ab"), true);
    }

    private static void leavesOtherThingsAlone(Check check) {
        WordSets x = Use.with("abc");
        Use.feed(x, "a)");
        check.throwsIllegalArgument("read of a)", () -> x.read(2));
        x.least(0);
        Use.feed(x, "ab");
        x.turn(0, 1);
        x.turn(0, 0);
        check.throwsIllegalArgument("turn 0 4", () -> x.turn(0, 4));
        check.equal("the word stays", Use.word(x), "abc");
        check.equal("place stays", x.place(), 1);
        check.equal("the tape stays", Use.fedBefore(x), 2);
    }

    private static void textsByChance(Check check) {
        Texts texts = new Texts(12);
        for (int i = 0; i < 600; i++) {
            String text = texts.right(1 + i % 4);
            WordSets x = Use.with(text);
            x.turn(0, 3);
            for (int length = 0; length <= 4; length++) {
                List<String> due = backwards(Reference.of(text).words(length));
                check.equal("turned " + text, x.count(3, length), due.size());
                for (int k = 0; k < due.size(); k += 1 + due.size() / 20) {
                    x.word(3, length, k);
                    check.equal("turned " + text, Use.word(x), due.get(k));
                }
            }
            x.turn(3, 3);
            check.equal("turned twice " + text, x.compare(0, 3), 0);
        }
    }

    private static List<String> backwards(List<String> words) {
        List<String> turned = new ArrayList<>();
        for (String word : words) {
            turned.add(new StringBuilder(word).reverse().toString());
        }
        Collections.sort(turned);
        return turned;
    }
}
