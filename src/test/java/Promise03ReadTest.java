/** Promise 3: read. */
public final class Promise03ReadTest {
    public static void main(String[] args) {
        Check check = new Check("read");
        countsLetters(check);
        meansWhatItSays(check);
        keepsTheSlotWhenWrong(check);
        usesUpTheTape(check);
        leavesOtherThingsAlone(check);
        check.end();
    }

    private static void countsLetters(Check check) {
        String[] texts = {"0", "1", "a", "d*", "(1|0)", "a|b|c|d", "abcdabcd", "aaaaaaaa", "(a(b)?)+1*"};
        int[] letters = {0, 0, 1, 1, 0, 4, 8, 8, 2};
        WordSets x = new WordSets();
        for (int i = 0; i < texts.length; i++) {
            check.equal("read of " + texts[i], Use.read(x, i % 4, texts[i]), letters[i]);
        }
    }

    private static void tells(Check check, String text, String words, String others) {
        WordSets x = Use.with(text);
        for (String word : words.split(",", -1)) {
            check.equal(text + " has \"" + word + "\"", Use.has(x, 0, word), true);
        }
        for (String word : others.split(",", -1)) {
            check.equal(text + " has \"" + word + "\"", Use.has(x, 0, word), false);
        }
    }

    private static void meansWhatItSays(Check check) {
        tells(check, "1", "", "a,b");
        tells(check, "a", "a", ",b,aa");
        tells(check, "ab|c", "ab,c", ",a,b,ac,abc");
        tells(check, "a(b|c)", "ab,ac", ",a,abc,b");
        tells(check, "ab*", "a,ab,abbb", ",abab,b");
        tells(check, "(ab)*", ",ab,abab", "a,aba,abb");
        tells(check, "(ab)+", "ab,abab", ",a,aba");
        tells(check, "a?b", "b,ab", ",a,aab");
        tells(check, "a+?", ",a,aa", "b");
        tells(check, "a?+", ",a,aa", "b");
        tells(check, "(a|1)(b|1)", ",a,b,ab", "ba,aa");
        tells(check, "a0b|c", "c", ",a,b,ab,ac");
        tells(check, "a0*b", "ab", ",a,b");
        tells(check, "(a0)*b", "b", ",a,ab");
        tells(check, "(0a)?b", "b", ",ab,a");
        tells(check, "0+|d", "d", ",a");
        tells(check, "0?", "", "a");
        tells(check, "1+a", "a", ",aa");
        tells(check, "(a?b?)+c", "c,ac,bac,abac,bbc", ",ab,cc");
        tells(check, "((a|b)(a|b))*", ",ab,bb,aaba", "a,aab");
        tells(check, "a|b*|c+", ",a,b,bb,c,cc", "aa,ab,bc,d");
    }

    private static void keepsTheSlotWhenWrong(Check check) {
        String[] wrong = {"", "(", "a|", "|a", "()", "a)", "e", "a b", "*", "aaaaaaaab", "(((((((((a)))))))))"};
        for (int slot = 0; slot < 4; slot++) {
            WordSets x = new WordSets();
            Use.read(x, slot, "ab+");
            for (String text : wrong) {
                int at = slot;
                Use.feed(x, text);
                check.throwsIllegalArgument("read of " + text, () -> x.read(at));
                check.equal("the slot stays", x.least(slot), 2);
                check.equal("the slot stays", x.count(slot, 3), 1);
                check.equal("the slot stays", x.states(slot), 4);
            }
        }
    }

    private static void usesUpTheTape(Check check) {
        WordSets x = new WordSets();
        Use.read(x, 0, "ab");
        check.equal("behind a right read", Use.fedBefore(x), 0);
        Use.feed(x, "b)");
        check.throwsIllegalArgument("read of ab)", () -> x.read(0));
        check.equal("behind a wrong read", Use.fedBefore(x), 0);
        for (int slot : Use.NO_SLOTS) {
            Use.feed(x, "abcd");
            check.throwsIllegalArgument("read of slot " + slot, () -> x.read(slot));
            check.equal("behind a read of no slot", Use.fedBefore(x), 0);
        }
        check.equal("a lone a on the tape", x.read(3), 1);
    }

    private static void leavesOtherThingsAlone(Check check) {
        WordSets x = Use.with("a", "ab", "abc", "abcd");
        x.least(2);
        Use.read(x, 1, "d|dd");
        check.equal("the word stays", Use.word(x), "abc");
        Use.feed(x, "d|");
        check.throwsIllegalArgument("read of d|", () -> x.read(2));
        check.equal("the word stays", Use.word(x), "abc");
        check.equal("slot 0 stays", x.least(0), 1);
        check.equal("slot 1 is new", x.count(1, 2), 1);
        check.equal("slot 2 stays", x.least(2), 3);
        check.equal("slot 3 stays", x.least(3), 4);
        check.equal("again the same slot", Use.read(x, 1, "cb"), 2);
        check.equal("nothing stays of the old one", x.count(1, 1), 0);
        x.least(1);
        check.equal("nothing stays of the old one", Use.word(x), "cb");
    }
}
