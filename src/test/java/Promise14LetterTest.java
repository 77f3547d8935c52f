/** Promise 14: letter. */
public final class Promise14LetterTest {
    public static void main(String[] args) {
        Check check = new Check("letter");
        WordSets x = Use.with("dcba", "a");
        none(check, x, 0);
        x.least(0);
        for (int k = 0; k < 4; k++) {
            check.equal("letter " + k, x.letter(k), 3 - k);
            check.equal("letter " + k + " again", x.letter(k), 3 - k);
        }
        none(check, x, 4);
        x.least(1);
        check.equal("letter 0", x.letter(0), 0);
        none(check, x, 1);
        x.compare(0, 0);
        none(check, x, 0);
        WordSets all = Use.with("(a|b|c|d)*");
        all.word(0, 30, (1L << 60) - 2);
        check.equal("letter 0", all.letter(0), 3);
        check.equal("letter 29", all.letter(29), 2);
        none(check, all, 30);
        check.end();
    }

    private static void none(Check check, WordSets x, int size) {
        for (int k : new int[] {-1, size, size + 1, 99, Integer.MIN_VALUE, Integer.MAX_VALUE}) {
            check.throwsA("letter " + k, IndexOutOfBoundsException.class, () -> x.letter(k));
        }
        check.equal("size", x.size(), size);
    }
}
