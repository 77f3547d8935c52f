/** Promise 5: has. */
public final class Promise05HasTest {
    public static void main(String[] args) {
        Check check = new Check("has");
        knownWords(check);
        longWords(check);
        usesUpTheTape(check);
        refusesOtherBytes(check);
        leavesOtherThingsAlone(check);
        wordsByChance(check);
        check.end();
    }

    private static void knownWords(Check check) {
        WordSets x = Use.with("(a|b)*abb", "1", "0", "(cd)+");
        check.equal("abb", Use.has(x, 0, "abb"), true);
        check.equal("ababb", Use.has(x, 0, "ababb"), true);
        check.equal("abba", Use.has(x, 0, "abba"), false);
        check.equal("abbc", Use.has(x, 0, "abbc"), false);
        check.equal("the empty word, not told", x.has(0), false);
        check.equal("the empty word, told", x.has(1), true);
        check.equal("the empty word of 0", x.has(2), false);
        check.equal("cdcd", Use.has(x, 3, "cdcd"), true);
        check.equal("cdc", Use.has(x, 3, "cdc"), false);
    }

    private static void longWords(Check check) {
        WordSets x = Use.with("(ab)*", "(abc)*");
        check.equal("80 letters", Use.has(x, 0, "ab".repeat(40)), true);
        check.equal("79 letters", Use.has(x, 0, "ab".repeat(39) + "a"), false);
        check.equal("78 letters", Use.has(x, 1, "abc".repeat(26)), true);
        check.equal("80 letters", Use.has(x, 1, "abc".repeat(26) + "ab"), false);
    }

    private static void usesUpTheTape(Check check) {
        WordSets x = Use.with("ab");
        check.equal("ab", Use.has(x, 0, "ab"), true);
        check.equal("used up when told", Use.fedBefore(x), 0);
        check.equal("ac", Use.has(x, 0, "c"), false);
        check.equal("used up when not told", Use.fedBefore(x), 0);
        for (int slot : Use.NO_SLOTS) {
            Use.feed(x, "bcd");
            check.throwsIllegalArgument("has of slot " + slot, () -> x.has(slot));
            check.equal("used up when there is no slot", Use.fedBefore(x), 0);
        }
        Use.feed(x, "|");
        check.throwsIllegalArgument("has of a|", () -> x.has(0));
        check.equal("used up when a byte is no letter", Use.fedBefore(x), 0);
    }

    private static void refusesOtherBytes(Check check) {
        for (char sign = 0; sign < 256; sign++) {
            WordSets x = Use.with("(a|b|c|d)*");
            boolean letter = sign >= 'a' && sign <= 'd';
            for (String text : new String[] {"" + sign, "ab" + sign, sign + "ab", "a" + sign + "d"}) {
                if (letter) {
                    check.equal("has of " + text, Use.has(x, 0, text), true);
                } else {
                    Use.feed(x, text);
                    check.throwsIllegalArgument("byte " + (int) sign, () -> x.has(0));
                }
            }
        }
        WordSets none = new WordSets();
        Use.feed(none, "aaae");
        check.throwsIllegalArgument("a byte behind a word that is not told", () -> none.has(0));
    }

    private static void leavesOtherThingsAlone(Check check) {
        WordSets x = Use.with("ab|c");
        Use.feed(x, "a)");
        check.throwsIllegalArgument("read of a)", () -> x.read(1));
        x.word(0, 2, 0);
        Use.has(x, 0, "c");
        check.throwsIllegalArgument("has of slot 4", () -> x.has(4));
        Use.feed(x, "e");
        check.throwsIllegalArgument("has of e", () -> x.has(0));
        check.equal("the word stays", Use.word(x), "ab");
        check.equal("place stays", x.place(), 1);
        check.equal("the slot stays", x.count(0, 1), 1);
    }

    private static void wordsByChance(Check check) {
        Texts texts = new Texts(5);
        for (int i = 0; i < 500; i++) {
            String text = texts.right(1 + i % 4);
            Reference due = Reference.of(text);
            WordSets x = Use.with(text);
            for (int j = 0; j < 30; j++) {
                String word = texts.word(8);
                check.equal(text + " has " + word, Use.has(x, 0, word), due.has(word));
            }
            for (int length = 0; length <= 3; length++) {
                for (String word : due.words(length)) {
                    check.equal(text + " has " + word, Use.has(x, 0, word), true);
                }
            }
        }
    }
}
