/** Promise 2: how many bytes are fed at once, which, and how many there are in all. */
public final class Edge02FeedTest {
    private static final long BYTES = 0x6463626161626364L; // dcbaabcd
    private static final String ALL = "dcbaabcd";

    public static void main(String[] args) {
        Edges edges = new Edges("Promise 2");
        edges.sentence("n bytes (1 .. 8) more on the tape: how many", Edge02FeedTest::oneToEight);
        edges.sentence("the lowest n, the highest of these first", Edge02FeedTest::lowestHighestFirst);
        edges.sentence("IllegalArgumentException: n is not so", Edge02FeedTest::otherNumbers);
        edges.sentence("IllegalStateException: there would be more than 80", Edge02FeedTest::moreThanEighty);
        edges.end();
    }

    private static void oneToEight(Check check) {
        for (int n = 1; n <= 8; n++) {
            WordSets x = new WordSets();
            for (int fed = n; fed <= 80; fed += n) {
                check.equal("feed of " + n, x.feed(BYTES, n), fed);
            }
        }
        for (int before = 1; before <= 8; before++) {
            for (int n = 1; n <= 8; n++) {
                WordSets x = new WordSets();
                x.feed(BYTES, before);
                check.equal("feed of " + n + " behind " + before, x.feed(BYTES, n), before + n);
            }
        }
    }

    private static void lowestHighestFirst(Check check) {
        for (int n = 1; n <= 8; n++) {
            WordSets x = new WordSets();
            x.feed(BYTES, n);
            check.equal("letters of " + n, x.read(0), n);
            x.least(0);
            check.equal("the lowest " + n, Use.word(x), ALL.substring(8 - n));
            // What stands above the lowest n is no matter, not even a byte that would be wrong.
            if (n < 8) {
                x.feed(-1L << 8 * n | BYTES & (1L << 8 * n) - 1, n);
                check.equal("letters of " + n, x.read(1), n);
                check.equal("the lowest " + n, x.compare(0, 1), 0);
            }
        }
        WordSets x = new WordSets();
        x.feed(0xff61, 1);
        x.feed(0x6263, 2);
        x.feed(0x64, 1);
        x.read(0);
        x.least(0);
        check.equal("earlier feeds come first", Use.word(x), "abcd");
        // A highest byte above 127 must not be taken for a sign.
        for (int n = 1; n <= 8; n++) {
            WordSets high = new WordSets();
            high.feed(0xffL << 8 * (n - 1), n);
            check.throwsIllegalArgument("byte 255", () -> high.read(0));
            check.equal("byte 255", high.place(), 0);
            high.feed(0x6161616161616161L & -1L << 8 | 0x80L, n);
            check.throwsIllegalArgument("byte 128", () -> high.read(0));
            check.equal("byte 128", high.place(), n - 1);
            // Its lowest seven bits alone would be the letter a.
            high.feed(0x6161616161616161L & -1L << 8 | 0xe1L, n);
            check.throwsIllegalArgument("byte 225", () -> high.read(0));
            check.equal("byte 225", high.place(), n - 1);
        }
    }

    private static void otherNumbers(Check check) {
        int[] numbers = {0, 9, -1, -8, 10, 16, 80, 256 + 1, Integer.MIN_VALUE, Integer.MIN_VALUE + 1, Integer.MAX_VALUE};
        for (int n : numbers) {
            Refused.leavesAll(check, "feed of " + n, x -> x.feed(BYTES, n));
        }
        for (int n = 1; n <= 8; n++) {
            WordSets x = new WordSets();
            check.throwsIllegalArgument("feed of 0", () -> x.feed(BYTES, 0));
            check.throwsIllegalArgument("feed of 9", () -> x.feed(BYTES, 9));
            check.equal("feed of " + n + " behind refused ones", x.feed(BYTES, n), n);
        }
    }

    private static void moreThanEighty(Check check) {
        for (int room = 0; room <= 7; room++) {
            String tape = "a" + "?".repeat(79 - room);
            for (int n = room + 1; n <= 8; n++) {
                int many = n;
                Refused.leavesAll(
                        check, "feed of " + n, tape, IllegalStateException.class, x -> x.feed(BYTES, many));
            }
            for (int n = 1; n <= room; n++) {
                WordSets x = new WordSets();
                Use.feed(x, tape);
                check.equal("feed of " + n, x.feed(BYTES, n), 80 - room + n);
            }
        }
        aFullTapeCanBeUsed(check);
    }

    private static void aFullTapeCanBeUsed(Check check) {
        WordSets x = new WordSets();
        for (int round = 0; round < 3; round++) {
            Use.feed(x, "b" + "?".repeat(79));
            check.throwsA("byte 81", IllegalStateException.class, () -> x.feed('a', 1));
            check.equal("all 80 are read", x.read(0), 1);
            Use.feed(x, "b".repeat(80));
            check.throwsA("byte 81", IllegalStateException.class, () -> x.feed('a', 1));
            check.equal("all 80 are looked at", x.has(0), false);
            check.equal("there is room again", x.feed(BYTES, 8), 8);
            x.has(0);
        }
    }
}
