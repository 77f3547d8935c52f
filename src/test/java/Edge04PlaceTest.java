/** Promise 4: which read() place() tells of. */
public final class Edge04PlaceTest {
    public static void main(String[] args) {
        Edges edges = new Edges("Promise 4");
        edges.sentence("Where the latest read() was wrong", Edge04PlaceTest::whereTheLatestWasWrong);
        edges.sentence("the latest read() with a slot", Edge04PlaceTest::withASlot);
        edges.sentence("-1 when it was right", Edge04PlaceTest::whenItWasRight);
        edges.sentence("-1 when there was none", Edge04PlaceTest::whenThereWasNone);
        edges.end();
    }

    private static void wrongRead(Check check, WordSets x, int slot, String text, int place) {
        Use.feed(x, text);
        check.throwsIllegalArgument("read of " + text, () -> x.read(slot));
        check.equal("place of " + text, x.place(), place);
        check.equal("place of " + text + " again", x.place(), place);
    }

    private static void whereTheLatestWasWrong(Check check) {
        WordSets x = new WordSets();
        wrongRead(check, x, 0, "", 0);
        wrongRead(check, x, 1, "1".repeat(79) + "(", 80);
        wrongRead(check, x, 2, "1".repeat(79) + ")", 79);
        wrongRead(check, x, 3, ")" + "1".repeat(79), 0);
        wrongRead(check, x, 0, "abc|", 4);
        wrongRead(check, x, 0, "ab||", 3);
        wrongRead(check, x, 3, "abcdabcdd", 8);
        wrongRead(check, x, 3, "(((((((((", 8);
        for (int place = 0; place <= 79; place++) {
            wrongRead(check, new WordSets(), place % 4, "1".repeat(place) + "e", place);
        }
    }

    private static void withASlot(Check check) {
        for (int slot : Use.NO_SLOTS) {
            for (String text : new String[] {"", "a", "abc)", "e", "1".repeat(80)}) {
                WordSets wrong = new WordSets();
                wrongRead(check, wrong, 1, "ab)", 2);
                Use.feed(wrong, text);
                check.throwsIllegalArgument("read of slot " + slot, () -> wrong.read(slot));
                check.equal("behind a wrong one", wrong.place(), 2);
                WordSets right = Use.with("ab");
                Use.feed(right, text);
                check.throwsIllegalArgument("read of slot " + slot, () -> right.read(slot));
                check.equal("behind a right one", right.place(), -1);
            }
        }
        for (int slot = 0; slot <= 3; slot++) {
            wrongRead(check, new WordSets(), slot, "a)", 1);
        }
    }

    private static void whenItWasRight(Check check) {
        for (int slot = 0; slot <= 3; slot++) {
            WordSets x = new WordSets();
            wrongRead(check, x, slot, "ab)", 2);
            Use.read(x, 3 - slot, "ab");
            check.equal("behind a right one", x.place(), -1);
            wrongRead(check, x, slot, "", 0);
            Use.read(x, slot, "1".repeat(80));
            check.equal("behind a right one", x.place(), -1);
        }
    }

    private static void whenThereWasNone(Check check) {
        WordSets x = new WordSets();
        check.equal("at first", x.place(), -1);
        Use.feed(x, "a)");
        check.equal("before the tape is read", x.place(), -1);
        check.throwsIllegalArgument("has of a)", () -> x.has(0));
        check.equal("has is no read", x.place(), -1);
        Use.feed(x, "a)");
        check.throwsIllegalArgument("has of slot 4", () -> x.has(4));
        x.has(0);
        x.compare(0, 1);
        x.contains(0, 1);
        x.least(0);
        x.count(0, 0);
        x.word(0, 0, 0);
        x.states(0);
        x.turn(0, 1);
        check.equal("no other call is a read", x.place(), -1);
        for (int slot : Use.NO_SLOTS) {
            Use.feed(x, "a)");
            check.throwsIllegalArgument("read of slot " + slot, () -> x.read(slot));
            check.equal("a read of no slot is none", x.place(), -1);
        }
    }
}
