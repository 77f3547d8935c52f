/** Promise 13: size, and which calls leave which word. */
public final class Promise13SizeTest {
    public static void main(String[] args) {
        Check check = new Check("size");
        WordSets x = Use.with("ab|b", "abc", "0", "(a|b|c|d)*");
        check.equal("empty at first", x.size(), 0);
        x.least(1);
        check.equal("behind least", x.size(), 3);
        x.compare(0, 1);
        check.equal("behind compare", x.size(), 1);
        x.contains(0, 1);
        check.equal("behind contains", x.size(), 3);
        x.least(2);
        check.equal("behind least of no word", x.size(), 0);
        for (int length = 0; length <= 30; length++) {
            x.word(3, length, 0);
            check.equal("behind word", x.size(), length);
        }
        x.word(0, 5, 0);
        check.equal("behind word without one", x.size(), 0);
        x.word(3, 7, 0);
        x.compare(1, 1);
        check.equal("behind compare of the same", x.size(), 0);
        x.word(3, 7, 0);
        x.contains(3, 1);
        check.equal("behind contains that holds", x.size(), 0);
        keptByOtherCalls(check, x);
        check.end();
    }

    private static void keptByOtherCalls(Check check, WordSets x) {
        x.word(3, 30, 5);
        Use.has(x, 0, "abc");
        Use.read(x, 0, "a");
        x.count(3, 4);
        x.states(3);
        x.turn(3, 0);
        x.place();
        x.letter(3);
        check.throwsIllegalArgument("least of slot 4", () -> x.least(4));
        check.throwsIllegalArgument("read of nothing", () -> x.read(0));
        check.equal("kept", x.size(), 30);
        check.equal("kept", Use.word(x), "a".repeat(28) + "bb");
    }
}
