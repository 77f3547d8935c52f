/** What it is: how many calls an object is used for. */
public final class Edge00CallsTest {
    private static final int MOST_CALLS = 512;
    private static final int SETTING_UP = 5;
    private static final int KINDS = 13;

    public static void main(String[] args) {
        Edges edges = new Edges("What it is");
        edges.sentence(
                "An object is used for at most 512 calls after it has been made",
                Edge00CallsTest::all512CallsAnswer);
        edges.sentence("what later calls answer is free", Edge00CallsTest::laterCallsEnd);
        edges.end();
    }

    private static void all512CallsAnswer(Check check) {
        for (int kind = 0; kind < KINDS; kind++) {
            lastCallOfKind(check, kind);
        }
        objectsHaveTheirOwnCalls(check);
        dearCalls(check);
        longestTexts(check);
    }

    /** Slot 0 tells ab and c, slot 1 abd alone; the word is abd, the tape empty. */
    private static WordSets setUp() {
        WordSets x = new WordSets();
        x.feed(0x61627c63L, 4); // ab|c
        x.read(0);
        x.feed(0x616264L, 3); // abd
        x.read(1);
        x.least(1);
        return x;
    }

    /** Call number i, of any kind, which leaves everything as it was. */
    private static void fill(Check check, WordSets x, int i) {
        switch (i % 10) {
            case 0: check.equal("place", x.place(), -1); break;
            case 1: check.equal("count", x.count(0, 2), 1); break;
            case 2: check.equal("states", x.states(1), 5); break;
            case 3: check.equal("size", x.size(), 3); break;
            case 4: check.equal("letter", x.letter(2), 3); break;
            case 5: x.turn(2, 3); break;
            case 6: check.equal("has", x.has(0), false); break;
            case 7: check.equal("least", x.least(1), 3); break;
            case 8: check.throwsIllegalArgument("a refused call", () -> x.least(4)); break;
            default: check.equal("word", x.word(1, 3, 0), true); break;
        }
    }

    private static WordSets usedFor(Check check, int calls) {
        WordSets x = setUp();
        for (int i = SETTING_UP; i < calls; i++) {
            fill(check, x, i);
        }
        return x;
    }

    private static void lastCallOfKind(Check check, int kind) {
        if (kind == 1 || kind == 3 || kind == 10) {
            lastTwoCalls(check, kind);
            return;
        }
        WordSets x = usedFor(check, MOST_CALLS - 1);
        switch (kind) {
            case 0: check.equal("feed as the last call", x.feed('a', 1), 1); break;
            case 2: check.equal("place as the last call", x.place(), -1); break;
            case 4: check.equal("compare as the last call", x.compare(0, 1), 1); break;
            case 5: check.equal("contains as the last call", x.contains(0, 1), false); break;
            case 6: check.equal("least as the last call", x.least(0), 1); break;
            case 7: check.equal("count as the last call", x.count(1, 3), 1); break;
            case 8: check.equal("word as the last call", x.word(0, 2, 0), true); break;
            case 9: check.equal("states as the last call", x.states(0), 4); break;
            case 11: check.equal("size as the last call", x.size(), 3); break;
            default: check.equal("letter as the last call", x.letter(1), 1); break;
        }
    }

    private static void lastTwoCalls(Check check, int kind) {
        WordSets x = usedFor(check, MOST_CALLS - 2);
        if (kind == 10) {
            x.turn(1, 2);
            check.equal("behind turn as the last call but one", x.least(2), 3);
            return;
        }
        x.feed(0x6162L, 2); // ab
        if (kind == 1) {
            check.equal("read as the last call", x.read(3), 2);
        } else {
            check.equal("has as the last call", x.has(0), true);
        }
    }

    private static void objectsHaveTheirOwnCalls(Check check) {
        WordSets[] all = new WordSets[20];
        for (int i = 0; i < all.length; i++) {
            all[i] = setUp();
        }
        for (int call = SETTING_UP; call < MOST_CALLS; call++) {
            for (WordSets x : all) {
                fill(check, x, call);
            }
        }
    }

    private static void dearCalls(Check check) {
        WordSets x = Use.with("(b*)a+((b)+)*(((a)(b)*a)+)b*a+", "(b((b)(a)(a(aaaa)+)+))+");
        for (int call = 20; call < MOST_CALLS - 1; call++) {
            check.equal("contains", x.contains(0, 1), false);
        }
        check.equal("the word of the latest call", x.size(), 45);
    }

    /** 46 texts of 80 bytes, fed by eights: 506 calls, and one. */
    private static void longestTexts(Check check) {
        WordSets x = new WordSets();
        for (int text = 0; text < 46; text++) {
            for (int i = 0; i < 9; i++) {
                x.feed(0x3131313131313131L, 8); // 11111111
            }
            check.equal("a full tape", x.feed(0x3131313131313161L, 8), 80); // 1111111a
            check.equal("a text of 80 bytes", x.read(text % 4), 1);
        }
        check.equal("what the last text tells", x.least(1), 1);
    }

    /** Nothing is promised but that LANGUAGE.md lets no call throw by itself or fail to end. */
    private static void laterCallsEnd(Check check) {
        WordSets x = usedFor(check, MOST_CALLS);
        for (int round = 0; round < 1000; round++) {
            int slot = round % 5;
            ends(check, () -> x.feed(0x617c6228632a2964L, 1 + slot));
            ends(check, () -> x.read(slot));
            ends(check, () -> x.place());
            ends(check, () -> x.has(slot));
            ends(check, () -> x.compare(slot, 1));
            ends(check, () -> x.contains(slot, 1));
            ends(check, () -> x.count(slot, 30));
            ends(check, () -> x.states(slot));
            ends(check, () -> x.turn(slot, 2));
            ends(check, () -> x.word(slot, 4, 0));
            ends(check, () -> x.least(slot));
            ends(check, () -> x.size());
            // Slot 1 still tells a word, so that there is a letter in every round.
            ends(check, () -> x.least(1));
            ends(check, () -> x.letter(0));
        }
    }

    /** Java's own exceptions would be of a class below one of these, or of another one. */
    private static void ends(Check check, Check.Call call) {
        Class<?> thrown = IllegalStateException.class;
        try {
            call.make();
        } catch (RuntimeException e) {
            thrown = e.getClass();
        }
        boolean named = thrown == IllegalArgumentException.class
                || thrown == IllegalStateException.class
                || thrown == IndexOutOfBoundsException.class;
        check.equal("nothing thrown but what the document names: " + thrown, named, true);
    }
}
