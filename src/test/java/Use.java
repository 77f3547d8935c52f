/** What the tests do with an object again and again. */
final class Use {
    static final int[] NO_SLOTS = {-1, 4, 5, Integer.MIN_VALUE, Integer.MAX_VALUE};

    private Use() {}

    /** Puts a text on the tape, in bites of several lengths. */
    static void feed(WordSets x, String text) {
        int at = 0;
        for (int bite = 8; at < text.length(); bite = bite == 1 ? 8 : bite - 1) {
            int end = Math.min(text.length(), at + bite);
            long bytes = 0;
            for (int i = at; i < end; i++) {
                bytes = bytes << 8 | text.charAt(i);
            }
            x.feed(bytes, end - at);
            at = end;
        }
    }

    static int read(WordSets x, int slot, String text) {
        feed(x, text);
        return x.read(slot);
    }

    static boolean has(WordSets x, int slot, String word) {
        feed(x, word);
        return x.has(slot);
    }

    /** Where a text is wrong; -1 when it is right. */
    static int place(WordSets x, int slot, String text) {
        feed(x, text);
        try {
            x.read(slot);
        } catch (IllegalArgumentException e) {
            return x.place();
        }
        return -1;
    }

    /** A new object whose first slots have these expressions. */
    static WordSets with(String... texts) {
        WordSets x = new WordSets();
        for (int slot = 0; slot < texts.length; slot++) {
            read(x, slot, texts[slot]);
        }
        return x;
    }

    /** The word, by size() and letter(). */
    static String word(WordSets x) {
        StringBuilder text = new StringBuilder();
        for (int k = 0; k < x.size(); k++) {
            text.append((char) ('a' + x.letter(k)));
        }
        return text.toString();
    }

    /** How many bytes are on the tape, which stays as it is but for one byte more. */
    static int fedBefore(WordSets x) {
        return x.feed('a', 1) - 1;
    }
}
