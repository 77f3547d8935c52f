/** Promise 1: all slots of a new object tell no word, and nothing else has happened to it. */
public final class Promise01NewObjectTest {
    public static void main(String[] args) {
        Check check = new Check("a new object");
        for (int slot = 0; slot < 4; slot++) {
            WordSets x = new WordSets();
            check.equal("least", x.least(slot), -1);
            for (int length = 0; length <= 30; length++) {
                check.equal("count of length " + length, x.count(slot, length), 0);
            }
            check.equal("states", x.states(slot), 1);
            check.equal("has the empty word", x.has(slot), false);
            check.equal("has abcd", Use.has(x, slot, "abcd"), false);
            check.equal("word", x.word(slot, 0, 0), false);
            for (int other = 0; other < 4; other++) {
                check.equal("compare", x.compare(slot, other), 0);
                check.equal("contains", x.contains(slot, other), true);
            }
        }
        WordSets fresh = new WordSets();
        check.equal("place", fresh.place(), -1);
        check.equal("size", fresh.size(), 0);
        check.equal("bytes on the tape", Use.fedBefore(fresh), 0);
        objectsAreApart(check);
        check.end();
    }

    private static void objectsAreApart(Check check) {
        WordSets one = Use.with("ab");
        one.least(0);
        WordSets other = new WordSets();
        Use.feed(one, "abc");
        check.equal("another object's slot", other.least(0), -1);
        check.equal("another object's word", other.size(), 0);
        check.equal("another object's tape", Use.fedBefore(other), 0);
        check.equal("the first object's word", Use.word(one), "ab");
    }
}
