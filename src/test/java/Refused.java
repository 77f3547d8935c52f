import java.util.Arrays;

/**
 * Refused calls on an object in whose every part something stands, and what they leave. Each part is
 * looked at on an object of its own, so that looking at one part does not hide what happened to another.
 */
final class Refused {
    interface Call {
        void on(WordSets x);
    }

    static final int PLACE = 2;
    static final String WORD = "bad";
    private static final String[] SLOTS = {"ab|c", "(a|b)*d", "1", "c?dda+"};
    private static final String[] TAPES = {"", "d", "dc?a", "cb*(", "a" + "+".repeat(79)};
    private static final int LONGEST = 5;
    private static final String[] TOLD = new String[SLOTS.length];

    static {
        for (int slot = 0; slot < SLOTS.length; slot++) {
            TOLD[slot] = told(SLOTS[slot]);
        }
    }

    private Refused() {}

    /** Four slots of different words, a latest read() that was wrong, a word, and a tape. */
    static WordSets lived(String tape) {
        WordSets x = Use.with(SLOTS);
        Use.feed(x, "ab)");
        try {
            x.read(1);
        } catch (IllegalArgumentException e) {
            // Wanted: now there is a place.
        }
        x.word(1, 3, 2);
        Use.feed(x, tape);
        return x;
    }

    /** The call throws an IllegalArgumentException, and everything stays, whatever is on the tape. */
    static void leavesAll(Check check, String what, Call call) {
        leavesAll(check, what, IllegalArgumentException.class, call);
    }

    static void leavesAll(Check check, String what, Class<? extends RuntimeException> due, Call call) {
        for (String tape : TAPES) {
            leavesAll(check, what, tape, due, call);
        }
    }

    static void leavesAll(
            Check check, String what, String tape, Class<? extends RuntimeException> due, Call call) {
        new Refused.Case(check, what, tape, due, call).leaves(PLACE, tape);
    }

    /** The call throws, the tape is used up, the place is as told, and everything else stays. */
    static void usesUpTheTape(Check check, String what, String tape, int place, Call call) {
        new Refused.Case(check, what, tape, IllegalArgumentException.class, call).leaves(place, "");
    }

    private static String told(String text) {
        Reference due = Reference.of(text);
        return due.leastStates() + " states, counts " + Arrays.toString(due.counts(LONGEST)) + " "
                + due.words(2) + due.words(3);
    }

    private record Case(
            Check check, String what, String tape, Class<? extends RuntimeException> due, Call call) {
        private String named(String part) {
            return what + " with \"" + tape + "\" on the tape: " + part;
        }

        private WordSets refused() {
            WordSets x = lived(tape);
            check.throwsA(named("the call"), due, () -> call.on(x));
            return x;
        }

        void leaves(int place, String left) {
            check.equal(named("place"), refused().place(), place);
            check.equal(named("the word"), Use.word(refused()), WORD);
            leavesSlots(refused());
            leavesTape(left);
        }

        private void leavesSlots(WordSets x) {
            for (int slot = 0; slot < SLOTS.length; slot++) {
                long[] counts = new long[LONGEST + 1];
                for (int length = 0; length <= LONGEST; length++) {
                    counts[length] = x.count(slot, length);
                }
                String told = x.states(slot) + " states, counts " + Arrays.toString(counts) + " "
                        + words(x, slot, 2) + words(x, slot, 3);
                check.equal(named("slot " + slot), told, TOLD[slot]);
            }
        }

        private static String words(WordSets x, int slot, int length) {
            StringBuilder words = new StringBuilder("[");
            for (int k = 0; x.word(slot, length, k); k++) {
                words.append(k > 0 ? ", " : "").append(Use.word(x));
            }
            return words.append("]").toString();
        }

        private void leavesTape(String left) {
            WordSets x = refused();
            if (left.length() == 80) {
                check.throwsA(named("byte 81"), IllegalStateException.class, () -> x.feed('a', 1));
            } else {
                check.equal(named("bytes"), x.feed('a', 1), left.length() + 1);
            }
            String text = left.length() == 80 ? left : left + "a";
            Reference due = Reference.of(text);
            if (due == null) {
                check.throwsIllegalArgument(named("read"), () -> x.read(0));
                check.equal(named("place of the read"), x.place(), Reference.place(text));
            } else {
                check.equal(named("read"), x.read(0), due.letters());
                String least = due.leastWhere(Reference.of("0"), true, false);
                check.equal(named("least"), x.least(0), least == null ? -1 : least.length());
                check.equal(named("least"), Use.word(x), least == null ? "" : least);
            }
        }
    }
}
