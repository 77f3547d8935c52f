/** The boundary cases of the terms, which hold for all promises. */
public final class Edge00TermsTest {
    private static final String OPEN = "((((((((";
    private static final String CLOSED = "))))))))";

    public static void main(String[] args) {
        Edges edges = new Edges("Terms");
        edges.sentence("EXPRESSIONS are texts of at most 80 bytes", Edge00TermsTest::eightyBytes);
        edges.sentence("at most 8 within one another", Edge00TermsTest::eightWithinOneAnother);
        edges.sentence("At most 8 letters", Edge00TermsTest::eightLetters);
        edges.sentence(
                "A text is WRONG at the first byte with which it can't be right, whatever follows",
                Edge00TermsTest::wrongAtTheFirstByte);
        edges.sentence("its length when something is missing", Edge00TermsTest::somethingIsMissing);
        edges.sentence("the ninth letter is wrong at it", Edge00TermsTest::ninthLetter);
        edges.sentence("the ninth ( within one another is wrong at it", Edge00TermsTest::ninthBracket);
        edges.sentence("0 (no word at all)", Edge00TermsTest::noWordAtAll);
        edges.sentence("1 (the empty word alone)", Edge00TermsTest::theEmptyWordAlone);
        edges.sentence("SLOTS 0 .. 3 have expressions, 0 (no word) at first", Edge00TermsTest::slots);
        edges.sentence("THE WORD is empty at first", Edge00TermsTest::theWordIsEmptyAtFirst);
        edges.sentence("THE WORD is empty when they say so", Edge00TermsTest::theWordIsEmptyWhenSaid);
        edges.end();
    }

    private static void right(Check check, String text, int letters) {
        WordSets x = Refused.lived("");
        Use.feed(x, text);
        check.equal("read of " + text, x.read(0), letters);
        check.equal("place of " + text, x.place(), -1);
    }

    private static void wrong(Check check, String text, int place) {
        Refused.usesUpTheTape(check, "a wrong text", text, place, x -> x.read(0));
    }

    private static void eightyBytes(Check check) {
        String[] texts = {
            "1".repeat(80),
            "a" + "*".repeat(79),
            "0|".repeat(39) + "ab",
            "(1)".repeat(26) + "ab",
            OPEN + "a" + CLOSED + OPEN + "b" + CLOSED + OPEN + "c" + CLOSED + OPEN + "d" + CLOSED + "1".repeat(12),
        };
        for (String text : texts) {
            check.equal("bytes of the text", text.length(), 80);
            WordSets x = new WordSets();
            Use.feed(x, text);
            check.throwsA("byte 81", IllegalStateException.class, () -> x.feed('1', 1));
            check.equal("read of 80 bytes", x.read(0), Reference.of(text).letters());
            check.equal("place", x.place(), -1);
        }
        right(check, "1".repeat(79), 0);
        WordSets last = Use.with("0|".repeat(39) + "ab");
        check.equal("the last bytes count", last.least(0), 2);
        check.equal("the last bytes count", Use.word(last), "ab");
        // The tape that is too full for a text is not too full for the bytes there are.
        Refused.leavesAll(check, "byte 81", "1".repeat(80), IllegalStateException.class, x -> x.feed('1', 1));
    }

    private static void eightWithinOneAnother(Check check) {
        for (int nested = 0; nested <= 8; nested++) {
            right(check, "(".repeat(nested) + "a" + ")".repeat(nested), 1);
        }
        for (int nested = 9; nested <= 12; nested++) {
            wrong(check, "(".repeat(nested) + "a" + ")".repeat(nested), 8);
        }
        right(check, OPEN + "a" + CLOSED + OPEN + "b" + CLOSED, 2);
        right(check, OPEN + "a)(b)(c)(d" + CLOSED, 4);
        right(check, OPEN + "a)|(b" + CLOSED, 2);
        right(check, "(a)(b)(c)(d)(1)(0)(1)(0)(1)(0)(1)(0)", 4);
        WordSets x = Use.with(OPEN + "ab" + CLOSED + "+c");
        check.equal("what is told eight deep", Use.has(x, 0, "ababc"), true);
        check.equal("what is told eight deep", Use.has(x, 0, "abb"), false);
        // A closed bracket makes room for another one.
        right(check, "(" + OPEN.substring(2) + "(a)(b)(c)" + CLOSED.substring(1), 3);
        wrong(check, OPEN.substring(1) + "(a)((b))" + CLOSED.substring(1), 11);
    }

    private static void eightLetters(Check check) {
        for (int letters = 1; letters <= 8; letters++) {
            right(check, "abcdabcd".substring(0, letters), letters);
            right(check, "d".repeat(letters), letters);
            right(check, "0|1" + "|c".repeat(letters) + "|0|1", letters);
            right(check, "(b*)?".repeat(letters) + "1+0?", letters);
        }
        for (int letters = 9; letters <= 12; letters++) {
            wrong(check, "d".repeat(letters), 8);
            wrong(check, "abcd".repeat(3).substring(0, letters), 8);
        }
        WordSets x = Use.with("abcdabcd");
        check.equal("eight letters", x.least(0), 8);
        check.equal("eight letters", Use.word(x), "abcdabcd");
        check.equal("eight letters in one word more often", Use.read(x, 0, "(aaaabbbb)+"), 8);
        check.equal("they are told again and again", x.count(0, 24), 1);
    }

    private static void wrongAtTheFirstByte(Check check) {
        String[] beginnings = {"", "a|", "(", "ab(c|"};
        for (String begin : beginnings) {
            for (char sign : "|)*+?eA2 [\0\377`".toCharArray()) {
                for (String end : new String[] {"", "a", "*", ")", "e", "(a)", "1|0"}) {
                    wrong(check, begin + sign + end, begin.length());
                }
            }
        }
        for (String begin : new String[] {"a", "0", "1", "(a)", "a*", "b|a", "(a|b)+?"}) {
            for (char sign : ")eA2 [\0\377`".toCharArray()) {
                for (String end : new String[] {"", "b", "*", ")", "((("}) {
                    wrong(check, begin + sign + end, begin.length());
                }
            }
        }
        wrong(check, "(a))", 3);
        wrong(check, "(a)b)*", 4);
        wrong(check, "((a)|b))", 7);
        wrong(check, "1".repeat(79) + ")", 79);
        wrong(check, "e" + "1".repeat(79), 0);
    }

    /** Every beginning of a right text is right itself, or wrong at its own length. */
    private static void somethingIsMissing(Check check) {
        wrong(check, "", 0);
        wrong(check, "(", 1);
        wrong(check, "a|", 2);
        wrong(check, "(a", 2);
        wrong(check, "(a|", 3);
        wrong(check, "((a)", 4);
        wrong(check, OPEN, 8);
        wrong(check, OPEN + "a" + CLOSED.substring(1), 16);
        wrong(check, "(abcdabcd", 9);
        wrong(check, "abcdabcd|", 9);
        wrong(check, "(" + "1".repeat(78), 79);
        wrong(check, "(" + "1".repeat(79), 80);
        wrong(check, "1".repeat(79) + "|", 80);
        String text = "(a|b)*(c(d?|1)+0)?|((a))+b";
        for (int length = 0; length < text.length(); length++) {
            String begin = text.substring(0, length);
            if (Reference.of(begin) == null) {
                wrong(check, begin, length);
            } else {
                right(check, begin, Reference.of(begin).letters());
            }
        }
        right(check, text, 6);
    }

    private static void ninthLetter(Check check) {
        for (char letter : "abcd".toCharArray()) {
            wrong(check, "abcdabcd" + letter, 8);
            wrong(check, "aaaaaaaa" + letter, 8);
            wrong(check, "a|b|c|d|a|b|c|d|" + letter, 16);
            wrong(check, "(abcdabcd" + letter, 9);
            wrong(check, "abcdabcd(" + letter, 9);
            wrong(check, "(a)(b)(c)(d)(a)(b)(c)(d)(" + letter + ")", 25);
            wrong(check, "abcdabcd|" + letter + ")e", 9);
            wrong(check, "(((abcdabcd" + letter + letter, 11);
            wrong(check, "a1b1c1d1a1b1c1d1" + letter, 16);
            wrong(check, "0*abcdabcd0+1?" + letter, 14);
        }
        right(check, "abcdabcd1", 8);
        right(check, "abcdabcd|0", 8);
        right(check, "abcdabcd*+?", 8);
        right(check, "(abcdabcd)(1|0)", 8);
        // What comes first is what counts.
        wrong(check, "abcdabcd)a", 8);
        wrong(check, "abcdabcd||a", 9);
    }

    private static void ninthBracket(Check check) {
        wrong(check, OPEN + "(", 8);
        wrong(check, OPEN + "((", 8);
        wrong(check, OPEN + "(a)" + CLOSED, 8);
        wrong(check, OPEN + "a(", 9);
        wrong(check, OPEN + "a|(b", 10);
        wrong(check, OPEN + "a)((", 11);
        wrong(check, "a" + OPEN + "(", 9);
        wrong(check, OPEN + "a" + CLOSED + OPEN + "(", 25);
        wrong(check, "(a)(b)(c)" + OPEN + "1(1", 18);
        right(check, OPEN + "a)(b" + CLOSED, 2);
        right(check, OPEN + "a" + CLOSED + "(b)", 2);
        wrong(check, OPEN + ")(", 8);
        wrong(check, OPEN + "|(", 8);
    }

    private static void noWordAtAll(Check check) {
        for (String text : new String[] {"0", "(0)", "0|0", "00", "0+", "a0", "0b", "(a|b)*0", "01", "10"}) {
            WordSets x = Use.with(text);
            check.equal("least of " + text, x.least(0), -1);
            for (int length = 0; length <= 30; length++) {
                check.equal("count of " + text, x.count(0, length), 0);
            }
            check.equal("the empty word in " + text, x.has(0), false);
            check.equal("a in " + text, Use.has(x, 0, "a"), false);
            check.equal("states of " + text, x.states(0), 1);
            check.equal(text + " and a slot never read", x.compare(0, 1), 0);
        }
        for (String text : new String[] {"0|a", "a|0", "0*a", "a0?", "(0|a)"}) {
            WordSets x = Use.with(text, "a");
            check.equal(text + " and a", x.compare(0, 1), 0);
        }
        check.equal("letters of 0", Use.read(new WordSets(), 0, "0"), 0);
    }

    private static void theEmptyWordAlone(Check check) {
        for (String text : new String[] {"1", "(1)", "1|1", "11", "1*", "1+", "1?", "0*", "0?", "1|0", "(a0)*"}) {
            WordSets x = Use.with(text);
            check.equal("least of " + text, x.least(0), 0);
            check.equal("the word", x.size(), 0);
            check.equal("count of " + text, x.count(0, 0), 1);
            for (int length = 1; length <= 30; length++) {
                check.equal("count of " + text, x.count(0, length), 0);
            }
            check.equal("the empty word in " + text, x.has(0), true);
            check.equal("a in " + text, Use.has(x, 0, "a"), false);
            check.equal("states of " + text, x.states(0), 2);
        }
        for (String text : new String[] {"1a", "a1", "1a1", "(1)a", "1+a1?"}) {
            WordSets x = Use.with(text, "a");
            check.equal(text + " and a", x.compare(0, 1), 0);
        }
        check.equal("letters of 1", Use.read(new WordSets(), 0, "1"), 0);
    }

    private static void slots(Check check) {
        for (int slot = 0; slot <= 3; slot++) {
            WordSets x = new WordSets();
            check.equal("no word at first", x.least(slot), -1);
            check.equal("read", Use.read(x, slot, "ab"), 2);
            check.equal("has", Use.has(x, slot, "ab"), true);
            check.equal("least", x.least(slot), 2);
            check.equal("count", x.count(slot, 2), 1);
            check.equal("word", x.word(slot, 2, 0), true);
            check.equal("states", x.states(slot), 4);
            check.equal("compare", x.compare(slot, (slot + 1) % 4), 1);
            check.equal("compare", x.compare((slot + 1) % 4, slot), 2);
            check.equal("contains", x.contains(slot, (slot + 3) % 4), true);
            check.equal("contains", x.contains((slot + 3) % 4, slot), false);
            x.turn(slot, (slot + 1) % 4);
            check.equal("turn", Use.has(x, (slot + 1) % 4, "ba"), true);
            for (int other = 0; other <= 3; other++) {
                boolean has = other == slot || other == (slot + 1) % 4;
                check.equal("the others have no word still", x.least(other), has ? 2 : -1);
            }
        }
        for (int slot : Use.NO_SLOTS) {
            Refused.usesUpTheTape(check, "read of slot " + slot, "ab", Refused.PLACE, x -> x.read(slot));
            Refused.usesUpTheTape(check, "has of slot " + slot, "ab", Refused.PLACE, x -> x.has(slot));
            Refused.leavesAll(check, "compare " + slot, x -> x.compare(slot, 0));
            Refused.leavesAll(check, "contains " + slot, x -> x.contains(slot, 0));
            Refused.leavesAll(check, "least of slot " + slot, x -> x.least(slot));
            Refused.leavesAll(check, "count of slot " + slot, x -> x.count(slot, 0));
            Refused.leavesAll(check, "word of slot " + slot, x -> x.word(slot, 0, 0));
            Refused.leavesAll(check, "states of slot " + slot, x -> x.states(slot));
            Refused.leavesAll(check, "turn " + slot, x -> x.turn(slot, 0));
        }
    }

    private static void theWordIsEmptyAtFirst(Check check) {
        WordSets x = new WordSets();
        check.equal("size", x.size(), 0);
        check.throwsA("letter 0", IndexOutOfBoundsException.class, () -> x.letter(0));
        Use.read(x, 0, "abc");
        Use.has(x, 0, "abc");
        x.count(0, 3);
        x.states(0);
        x.turn(0, 1);
        x.place();
        check.equal("still, behind calls that leave none", x.size(), 0);
        check.throwsIllegalArgument("least of slot 4", () -> x.least(4));
        check.throwsIllegalArgument("word 0 of length 31", () -> x.word(0, 31, 0));
        check.throwsIllegalArgument("compare 0 4", () -> x.compare(0, 4));
        check.throwsIllegalArgument("contains 4 0", () -> x.contains(4, 0));
        check.equal("still, behind refused calls", x.size(), 0);
    }

    /** Each of the calls that say so, when another word was there before. */
    private static void theWordIsEmptyWhenSaid(Check check) {
        WordSets x = Use.with("ab", "ab|ac", "0", "1");
        x.least(0);
        check.equal("compare", x.compare(0, 0), 0);
        empty(check, "compare of the same words", x);
        x.least(0);
        check.equal("contains", x.contains(1, 0), true);
        empty(check, "contains all", x);
        x.least(0);
        check.equal("least", x.least(2), -1);
        empty(check, "least of no word", x);
        x.least(0);
        check.equal("word", x.word(0, 2, 1), false);
        empty(check, "word that is not there", x);
        x.least(0);
        check.equal("least", x.least(3), 0);
        empty(check, "least that is the empty word", x);
    }

    private static void empty(Check check, String what, WordSets x) {
        check.equal(what + ": size", x.size(), 0);
        check.throwsA(what + ": letter 0", IndexOutOfBoundsException.class, () -> x.letter(0));
    }
}
