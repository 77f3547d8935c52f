/** Promise 4: place, and where a text is wrong. */
public final class Promise04PlaceTest {
    public static void main(String[] args) {
        Check check = new Check("place");
        knownPlaces(check);
        limits(check);
        everyByte(check);
        latestReadWithASlot(check);
        allShortTexts(check);
        textsByChance(check);
        check.end();
    }

    private static void placeOf(Check check, String text, int due) {
        check.equal("place of \"" + text + "\"", Use.place(new WordSets(), 0, text), due);
    }

    private static void knownPlaces(Check check) {
        placeOf(check, "", 0);
        placeOf(check, "a", -1);
        placeOf(check, "|", 0);
        placeOf(check, ")", 0);
        placeOf(check, "+", 0);
        placeOf(check, "?a", 0);
        placeOf(check, "a|", 2);
        placeOf(check, "a||b", 2);
        placeOf(check, "a|)", 2);
        placeOf(check, "(", 1);
        placeOf(check, "((a)", 4);
        placeOf(check, "(a|", 3);
        placeOf(check, "()", 1);
        placeOf(check, "(|a)", 1);
        placeOf(check, "(*a)", 1);
        placeOf(check, "(a|)", 3);
        placeOf(check, "(a))", 3);
        placeOf(check, "(a)b)c", 4);
        placeOf(check, "a*+?*+?", -1);
        placeOf(check, "a|b*c", -1);
        placeOf(check, "(a)(b)", -1);
        placeOf(check, "ab2", 2);
        placeOf(check, "aA", 1);
        placeOf(check, "e|", 0);
        placeOf(check, "((a|e", 4);
    }

    private static void limits(Check check) {
        String eight = "((((((((";
        String closed = "))))))))";
        placeOf(check, eight + "a" + closed, -1);
        placeOf(check, eight + "(", 8);
        placeOf(check, eight + "a" + closed + eight + "b" + closed, -1);
        placeOf(check, eight + "a)(b)" + closed.substring(1), -1);
        placeOf(check, eight + "a)((b", 11);
        placeOf(check, "a" + eight + "(", 9);
        placeOf(check, eight, 8);
        placeOf(check, "abcdabcd", -1);
        placeOf(check, "abcdabcda", 8);
        placeOf(check, "abcdabcd0101", -1);
        placeOf(check, "abcdabcd*(1|0)?", -1);
        placeOf(check, "(abcdabcd", 9);
        placeOf(check, "(abcdabcd|d)", 10);
        placeOf(check, "a|b|c|d|a|b|c|d|a", 16);
        placeOf(check, "1".repeat(80), -1);
        placeOf(check, "1".repeat(79) + "|", 80);
        placeOf(check, "1".repeat(79) + "(", 80);
        placeOf(check, "1".repeat(79) + ")", 79);
        placeOf(check, "(" + "1".repeat(79), 80);
        placeOf(check, "(" + "1".repeat(78) + ")", -1);
    }

    private static void everyByte(Check check) {
        for (char sign = 0; sign < 256; sign++) {
            boolean begins = "abcd01(".indexOf(sign) >= 0;
            boolean follows = begins || "|*+?".indexOf(sign) >= 0;
            placeOf(check, sign + "", begins ? (sign == '(' ? 1 : -1) : 0);
            placeOf(check, "a" + sign + "a", follows ? (sign == '(' ? 3 : -1) : 1);
        }
    }

    private static void latestReadWithASlot(Check check) {
        WordSets x = new WordSets();
        for (int slot : Use.NO_SLOTS) {
            check.throwsIllegalArgument("read of slot " + slot, () -> x.read(slot));
            check.equal("no read with a slot yet", x.place(), -1);
        }
        Use.feed(x, "ab)");
        check.throwsIllegalArgument("read of ab)", () -> x.read(2));
        check.equal("place", x.place(), 2);
        check.equal("place again", x.place(), 2);
        for (int slot : Use.NO_SLOTS) {
            Use.feed(x, "a");
            check.throwsIllegalArgument("read of slot " + slot, () -> x.read(slot));
            check.equal("a read of no slot does not count", x.place(), 2);
        }
        Use.has(x, 0, "ab");
        x.turn(0, 1);
        x.least(0);
        check.equal("other calls do not count", x.place(), 2);
        Use.read(x, 3, "a");
        check.equal("a right read", x.place(), -1);
        check.throwsIllegalArgument("read of slot 4", () -> x.read(4));
        check.equal("a read of no slot does not count", x.place(), -1);
        check.throwsIllegalArgument("read of nothing", () -> x.read(0));
        check.equal("place of nothing", x.place(), 0);
    }

    private static void allShortTexts(Check check) {
        String signs = "a1()|*";
        for (int length = 0; length <= 5; length++) {
            int all = (int) Math.pow(signs.length(), length);
            for (int number = 0; number < all; number++) {
                StringBuilder text = new StringBuilder();
                for (int i = 0, rest = number; i < length; i++, rest /= signs.length()) {
                    text.append(signs.charAt(rest % signs.length()));
                }
                agrees(check, new WordSets(), text.toString());
            }
        }
    }

    private static void agrees(Check check, WordSets x, String text) {
        check.equal("place of \"" + text + "\"", Use.place(x, 0, text), Reference.place(text));
    }

    private static void textsByChance(Check check) {
        Texts texts = new Texts(4);
        for (int i = 0; i < 1500; i++) {
            agrees(check, new WordSets(), texts.right(4));
            agrees(check, new WordSets(), texts.spoiled());
            agrees(check, new WordSets(), texts.crowded());
        }
    }
}
