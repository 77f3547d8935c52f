/** Promise 3: when the tape is used up, and when a slot stays. */
public final class Edge03ReadTest {
    private static final String[] WRONG = {
        "", "(", "e", "a|", "ab)", "()", "*", "abcdabcda", "(((((((((a", "dc(b", "a" + "(".repeat(79), "1".repeat(79) + "|",
    };
    private static final int[] PLACES = {0, 1, 0, 2, 2, 1, 0, 8, 8, 4, 9, 80};

    public static void main(String[] args) {
        Edges edges = new Edges("Promise 3");
        edges.sentence("The tape (used up) becomes the expression", Edge03ReadTest::usedUp);
        edges.sentence("The tape (used up, also when this throws)", Edge03ReadTest::usedUpWhenThrowing);
        edges.sentence("IllegalArgumentException: no such slot", Edge03ReadTest::noSuchSlot);
        edges.sentence("IllegalArgumentException: it is wrong (the slot stays)", Edge03ReadTest::theSlotStays);
        edges.end();
    }

    private static void usedUp(Check check) {
        for (String text : new String[] {"a", "ab|c", "0", "c" + "*".repeat(79)}) {
            WordSets x = Use.with(text);
            check.equal("bytes behind a read", Use.fedBefore(x), 0);
            check.equal("only the new byte is read", x.read(0), 1);
            x.least(0);
            check.equal("only the new byte is read", Use.word(x), "a");
        }
        WordSets x = Use.with("ab");
        check.throwsIllegalArgument("the same text a second time", () -> x.read(0));
        check.equal("it was not there any more", x.place(), 0);
        check.equal("the slot stays", x.least(0), 2);
    }

    private static void usedUpWhenThrowing(Check check) {
        for (String text : WRONG) {
            WordSets x = new WordSets();
            Use.feed(x, text);
            check.throwsIllegalArgument("read of " + text, () -> x.read(0));
            newBytesAlone(check, "behind a wrong read of " + text, x);
        }
        for (int slot : Use.NO_SLOTS) {
            for (String text : new String[] {"a", "ab)", "", "d" + "?".repeat(79)}) {
                WordSets x = new WordSets();
                Use.feed(x, text);
                check.throwsIllegalArgument("read of slot " + slot, () -> x.read(slot));
                newBytesAlone(check, "behind a read of slot " + slot, x);
            }
        }
    }

    private static void newBytesAlone(Check check, String what, WordSets x) {
        check.equal(what, x.feed(0x6362, 2), 2); // cb
        check.equal(what, x.read(0), 2);
        x.least(0);
        check.equal(what, Use.word(x), "cb");
        check.equal(what, x.count(0, 1), 0);
    }

    private static void noSuchSlot(Check check) {
        for (int slot : Use.NO_SLOTS) {
            for (String text : new String[] {"", "a", "dcba", "b)", "e", "1".repeat(80)}) {
                Refused.usesUpTheTape(check, "read of slot " + slot, text, Refused.PLACE, x -> x.read(slot));
            }
        }
        for (int slot = 0; slot <= 3; slot++) {
            check.equal("read of slot " + slot, Use.read(new WordSets(), slot, "dcba"), 4);
        }
    }

    private static void theSlotStays(Check check) {
        for (int i = 0; i < WRONG.length; i++) {
            for (int slot = 0; slot <= 3; slot++) {
                int at = slot;
                Refused.usesUpTheTape(check, "read of slot " + slot, WRONG[i], PLACES[i], x -> x.read(at));
            }
        }
        // It stays also when wrong reads and right ones follow one another.
        WordSets x = Use.with("ab", "ba");
        for (int round = 0; round < 4; round++) {
            Use.feed(x, "cccc)");
            check.throwsIllegalArgument("read of cccc)", () -> x.read(0));
            check.equal("the slot stays", Use.has(x, 0, "ab"), true);
            check.equal("the other slot is read", Use.read(x, 1, "dd"), 2);
            check.equal("the slot stays", Use.has(x, 0, "ab"), true);
            check.equal("nothing of the wrong text", Use.has(x, 1, "cccc"), false);
        }
    }
}
