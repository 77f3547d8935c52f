/** Promise 11: states. */
public final class Promise11StatesTest {
    public static void main(String[] args) {
        Check check = new Check("states");
        statesOf(check, "0", 1);
        statesOf(check, "a0", 1);
        statesOf(check, "1", 2);
        statesOf(check, "0*", 2);
        statesOf(check, "(a|b|c|d)*", 1);
        statesOf(check, "(a|b|c|d)+", 2);
        statesOf(check, "(a|b|c)*", 2);
        statesOf(check, "a", 3);
        statesOf(check, "a?", 3);
        statesOf(check, "a+", 3);
        statesOf(check, "(a|b)*abb", 5);
        statesOf(check, "(a|b|c|d)*a(a|b)", 4);
        statesOf(check, "((a|b)(a|b))*", 3);
        statesOf(check, "(aaa)*|(aaaaa)*", 16);
        statesOf(check, "(aaaaaaaa)*", 9);
        statesOf(check, "abcdabcd", 10);
        statesOf(check, "ab|cb", 4);
        statesOf(check, "(ab|ba|aa|bb)*", 3);
        slots(check);
        textsByChance(check);
        check.end();
    }

    private static void statesOf(Check check, String text, int due) {
        check.equal("states of " + text, Use.with(text).states(0), due);
    }

    private static void slots(Check check) {
        WordSets x = Use.with("0", "1", "a", "ab");
        for (int slot = 0; slot < 4; slot++) {
            check.equal("states of slot " + slot, x.states(slot), slot + 1);
        }
        x.least(3);
        Use.feed(x, "abc");
        for (int slot : Use.NO_SLOTS) {
            check.throwsIllegalArgument("states of slot " + slot, () -> x.states(slot));
        }
        x.states(2);
        check.equal("the word stays", Use.word(x), "ab");
        check.equal("the tape stays", Use.fedBefore(x), 3);
    }

    private static void textsByChance(Check check) {
        Texts texts = new Texts(11);
        for (int i = 0; i < 2000; i++) {
            String text = texts.right(1 + i % 4);
            statesOf(check, text, Reference.of(text).leastStates());
        }
    }
}
