/** Texts by chance, but the same in every run. */
final class Texts {
    private static final String SIGNS = "abcd01()|*+?";

    private long seed;

    Texts(long seed) {
        this.seed = seed;
    }

    int below(int bound) {
        seed = seed * 6364136223846793005L + 1442695040888963407L;
        return (int) ((seed >>> 33) % bound);
    }

    /** A right expression over the first few letters. */
    String right(int alphabet) {
        while (true) {
            String text = sum(1 + below(8), alphabet, 0);
            if (text.length() <= 80 && Reference.of(text) != null) {
                return text;
            }
        }
    }

    private String sum(int letters, int alphabet, int nested) {
        if (letters <= 1 || nested >= 7) {
            return atom(alphabet) + signs();
        }
        int mine = 1 + below(letters - 1);
        String one = sum(mine, alphabet, nested + 1);
        String other = sum(letters - mine, alphabet, nested + 1);
        String joined = one + (below(5) < 2 ? "|" : "") + other;
        return below(2) == 0 ? joined : "(" + joined + ")" + signs();
    }

    private String atom(int alphabet) {
        int kind = below(24);
        return kind == 0 ? "0" : kind == 1 ? "1" : "" + (char) ('a' + below(alphabet));
    }

    private String signs() {
        int kind = below(10);
        if (kind >= 6) {
            return "";
        }
        return kind == 5 ? "" + repeatSign() + repeatSign() : "" + repeatSign();
    }

    private char repeatSign() {
        return "*+?".charAt(below(3));
    }

    /** A right text with a few bytes changed, added or taken out: right or wrong. */
    String spoiled() {
        StringBuilder text = new StringBuilder(right(4));
        for (int changes = 1 + below(3); changes > 0; changes--) {
            int place = below(text.length() + 1);
            int kind = below(3);
            if (kind > 0 && place < text.length()) {
                text.deleteCharAt(place);
            }
            if (kind < 2) {
                text.insert(place, sign());
            }
        }
        return text.length() <= 80 ? text.toString() : text.substring(0, 80);
    }

    private char sign() {
        return below(30) == 0 ? (char) below(256) : SIGNS.charAt(below(SIGNS.length()));
    }

    /** Full of brackets and letters, so that the limits are met; seldom goes on behind a wrong byte. */
    String crowded() {
        StringBuilder text = new StringBuilder();
        for (int more = 10 + below(40); more > 0; more--) {
            char sign = "(((((ab1)|*".charAt(below(11));
            if (below(40) == 0 || Reference.hasRightEnd(text.toString() + sign)) {
                text.append(sign);
            }
        }
        return text.toString();
    }

    String word(int longest) {
        StringBuilder text = new StringBuilder();
        for (int more = below(longest + 1); more > 0; more--) {
            text.append((char) ('a' + below(4)));
        }
        return text.toString();
    }
}
