/** Promise 5: when the tape is used up, and what is refused. */
public final class Edge05HasTest {
    public static void main(String[] args) {
        Edges edges = new Edges("Promise 5");
        edges.sentence("the tape (used up) is a word that a slot tells", Edge05HasTest::usedUp);
        edges.sentence("the tape (used up, also when this throws)", Edge05HasTest::usedUpWhenThrowing);
        edges.sentence("IllegalArgumentException: no such slot", Edge05HasTest::noSuchSlot);
        edges.sentence("IllegalArgumentException: a byte is no letter", Edge05HasTest::noLetter);
        edges.end();
    }

    private static void usedUp(Check check) {
        WordSets x = Use.with("(ab)*");
        for (String word : new String[] {"", "ab", "ba", "ab".repeat(40), "a".repeat(80), "d"}) {
            check.equal(word, Use.has(x, 0, word), word.equals("ab".repeat(word.length() / 2)));
            check.equal("behind " + word, x.has(0), true);
            check.equal("behind " + word, x.feed('a', 1), 1);
            check.equal("behind " + word, x.has(0), false);
        }
    }

    private static void usedUpWhenThrowing(Check check) {
        WordSets x = Use.with("1");
        for (String text : new String[] {"e", "ab*", "|ab", "1", "a".repeat(79) + "e", "(" + "a".repeat(79)}) {
            Use.feed(x, text);
            check.throwsIllegalArgument("has of " + text, () -> x.has(0));
            check.equal("the tape is empty", x.has(0), true);
            check.equal("the tape is empty", Use.fedBefore(x), 0);
            x.has(0);
        }
        for (int slot : Use.NO_SLOTS) {
            for (String text : new String[] {"", "a", "e", "a".repeat(80)}) {
                Use.feed(x, text);
                check.throwsIllegalArgument("has of slot " + slot, () -> x.has(slot));
                check.equal("the tape is empty", x.has(0), true);
            }
        }
    }

    private static void noSuchSlot(Check check) {
        for (int slot : Use.NO_SLOTS) {
            for (String text : new String[] {"", "c", "ab", "e", "b".repeat(80)}) {
                Refused.usesUpTheTape(check, "has of slot " + slot, text, Refused.PLACE, x -> x.has(slot));
            }
        }
        for (int slot = 0; slot <= 3; slot++) {
            WordSets x = new WordSets();
            Use.read(x, slot, "c");
            check.equal("has of slot " + slot, Use.has(x, slot, "c"), true);
        }
    }

    private static void noLetter(Check check) {
        for (char sign = 0; sign < 256; sign++) {
            boolean letter = sign >= 'a' && sign <= 'd';
            for (String text : new String[] {"" + sign, sign + "b", "b" + sign, "a".repeat(79) + sign}) {
                if (letter) {
                    check.equal(text, Use.has(Use.with("(a|b|c|d)+"), 0, text), true);
                } else {
                    Refused.usesUpTheTape(check, "byte " + (int) sign, text, Refused.PLACE, x -> x.has(0));
                }
            }
        }
        // Also where the letters before the byte are no beginning of a word that the slot tells.
        Refused.usesUpTheTape(check, "byte e", "dddde", Refused.PLACE, x -> x.has(2));
        for (int slot = 0; slot <= 3; slot++) {
            int at = slot;
            Refused.usesUpTheTape(check, "byte `", "`", Refused.PLACE, x -> x.has(at));
            Refused.usesUpTheTape(check, "byte e", "e", Refused.PLACE, x -> x.has(at));
        }
    }
}
