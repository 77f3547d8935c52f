/** Promise 1: what a new object's slots tell. */
public final class Edge01NewObjectTest {
    public static void main(String[] args) {
        Edges edges = new Edges("Promise 1");
        edges.sentence("All slots tell no word.", Edge01NewObjectTest::allSlotsTellNoWord);
        edges.end();
    }

    private static void allSlotsTellNoWord(Check check) {
        for (int slot = 0; slot <= 3; slot++) {
            WordSets x = new WordSets();
            check.equal("the empty word", x.has(slot), false);
            for (String word : new String[] {"a", "b", "c", "d", "ab", "d".repeat(80)}) {
                check.equal(word, Use.has(x, slot, word), false);
            }
            check.equal("least", x.least(slot), -1);
            for (int length = 0; length <= 30; length++) {
                check.equal("count of length " + length, x.count(slot, length), 0);
                check.equal("word of length " + length, x.word(slot, length, 0), false);
            }
            check.equal("states", x.states(slot), 1);
            sameAsZero(check, slot);
        }
    }

    private static void sameAsZero(Check check, int slot) {
        for (int other = 0; other <= 3; other++) {
            WordSets x = new WordSets();
            check.equal("compare of new slots", x.compare(slot, other), 0);
            x.turn(slot, other);
            check.equal("turned", x.least(other), -1);
            if (other != slot) {
                Use.read(x, other, "0");
                check.equal("compare with 0", x.compare(slot, other), 0);
                Use.read(x, other, "1");
                check.equal("compare with 1", x.compare(slot, other), 2);
                check.equal("1 contains it", x.contains(other, slot), true);
                check.equal("it contains 1", x.contains(slot, other), false);
            }
        }
    }
}
