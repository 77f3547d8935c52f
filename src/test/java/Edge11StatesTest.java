/** Promise 11: the set of no words among those that follow, and what is refused. */
public final class Edge11StatesTest {
    public static void main(String[] args) {
        Edges edges = new Edges("Promise 11");
        edges.sentence("also one that nothing begins with, if there is such", Edge11StatesTest::nothingBegins);
        edges.sentence("How many different sets of words", Edge11StatesTest::differentSets);
        edges.sentence("IllegalArgumentException: no such slot", Edge11StatesTest::noSuchSlot);
        edges.end();
    }

    private static void statesOf(Check check, String text, int due) {
        for (int slot = 0; slot <= 3; slot++) {
            WordSets x = new WordSets();
            Use.read(x, slot, text);
            check.equal("states of " + text, x.states(slot), due);
        }
    }

    /** The same with and without a word that begins no word told. */
    private static void nothingBegins(Check check) {
        statesOf(check, "(a|b|c|d)*", 1);
        statesOf(check, "(a|b|c)*", 2);
        statesOf(check, "(b|c|d)*", 2);
        statesOf(check, "(a|b|c|d)+", 2);
        statesOf(check, "(a|b|d)+", 3);
        statesOf(check, "(a|b|c|d)*a", 2);
        statesOf(check, "(a|b|c)*a", 3);
        statesOf(check, "((a|b|c|d)(a|b|c|d))*", 2);
        statesOf(check, "((a|b|c|d)(a|b|c))*", 3);
        // Nothing begins with any word here, not even with the empty one: that set is the only one.
        statesOf(check, "0", 1);
        statesOf(check, "a0", 1);
        statesOf(check, "(a|b)*0", 1);
        statesOf(check, "1", 2);
        statesOf(check, "0*", 2);
    }

    private static void differentSets(Check check) {
        statesOf(check, "a", 3);
        statesOf(check, "a|b|c|d", 3);
        statesOf(check, "ac|bc", 4);
        statesOf(check, "ac|bd", 5);
        statesOf(check, "aa*|ba*", 3);
        statesOf(check, "a*a*a*", 2);
        statesOf(check, "abcdabcd", 10);
        statesOf(check, "(aaaaaaaa)*", 9);
        statesOf(check, "a?a?a?a?a?a?a?a?", 10);
        statesOf(check, "(aaa)*|(aaaaa)*", 16);
        statesOf(check, "(a|b)*a(a|b)(a|b)", 9);
    }

    private static void noSuchSlot(Check check) {
        for (int slot : Use.NO_SLOTS) {
            Refused.leavesAll(check, "states of slot " + slot, x -> x.states(slot));
        }
        int[] due = {4, 3, 2, 6};
        for (int slot = 0; slot <= 3; slot++) {
            check.equal("states of slot " + slot, Refused.lived("").states(slot), due[slot]);
        }
    }
}
