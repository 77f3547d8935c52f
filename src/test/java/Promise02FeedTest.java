/** Promise 2: feed. */
public final class Promise02FeedTest {
    public static void main(String[] args) {
        Check check = new Check("feed");
        answersHowManyThereAre(check);
        takesTheLowestHighestFirst(check);
        refusesWrongNumbers(check);
        refusesMoreThanEighty(check);
        wrongNumberComesFirst(check);
        check.end();
    }

    private static void answersHowManyThereAre(Check check) {
        WordSets x = new WordSets();
        int sum = 0;
        for (int n = 1; n <= 8; n++) {
            sum += n;
            check.equal("feed of " + n, x.feed(0, n), sum);
        }
        try {
            x.read(0);
        } catch (IllegalArgumentException e) {
            check.equal("feed behind a read", x.feed(0, 1), 1);
        }
        check.equal("has of byte 0", hasThrows(x), true);
        check.equal("feed behind a has", x.feed(0, 1), 1);
    }

    private static boolean hasThrows(WordSets x) {
        try {
            x.has(0);
        } catch (IllegalArgumentException e) {
            return true;
        }
        return false;
    }

    private static void takesTheLowestHighestFirst(Check check) {
        long bytes = 0x6162636464636261L; // abcddcba
        String all = "abcddcba";
        for (int n = 1; n <= 8; n++) {
            WordSets x = new WordSets();
            x.feed(bytes, n);
            x.read(0);
            x.least(0);
            check.equal("the lowest " + n, Use.word(x), all.substring(8 - n));
        }
        WordSets x = new WordSets();
        x.feed(0xffffffffffffff61L, 1);
        x.feed(0x7a7a7a7a7a7a6263L, 2);
        check.equal("two feeds", x.read(0), 3);
        x.least(0);
        check.equal("two feeds", Use.word(x), "abc");
        WordSets high = new WordSets();
        high.feed(0x61ffL, 2);
        check.throwsIllegalArgument("byte 255", () -> high.read(0));
        check.equal("byte 255 is wrong", high.place(), 1);
        high.feed(0x80ff61626364617aL, 8);
        check.throwsIllegalArgument("byte 128 at the top", () -> high.read(0));
        check.equal("byte 128 is wrong", high.place(), 0);
        // 256 + 'a' is no letter's byte but the byte below it is one.
        high.feed(0x161L, 1);
        check.equal("only the lowest byte", high.read(0), 1);
    }

    private static void refusesWrongNumbers(Check check) {
        int[] numbers = {0, 9, -1, 16, 256 + 1, Integer.MIN_VALUE, Integer.MAX_VALUE, Integer.MIN_VALUE + 1};
        WordSets x = new WordSets();
        x.feed(0x6162L, 2);
        for (int n : numbers) {
            check.throwsIllegalArgument("feed of " + n, () -> x.feed(0x6162636461626364L, n));
        }
        check.equal("the tape stays", x.read(0), 2);
        x.least(0);
        check.equal("the tape stays", Use.word(x), "ab");
    }

    private static void refusesMoreThanEighty(Check check) {
        for (int room = 0; room < 8; room++) {
            WordSets x = new WordSets();
            Use.feed(x, "a" + "?".repeat(79 - room));
            for (int n = room + 1; n <= 8; n++) {
                int wide = n;
                check.throwsA("byte 81", IllegalStateException.class, () -> x.feed(0, wide));
            }
            if (room > 0) {
                check.equal("the room is still there", x.feed(0x3f3f3f3f3f3f3f3fL, room), 80);
            }
            check.throwsA("byte 81", IllegalStateException.class, () -> x.feed('a', 1));
            check.equal("eighty bytes are right", x.read(0), 1);
            check.equal("eighty bytes, the word a", x.count(0, 1), 1);
            check.equal("the tape is used up", Use.fedBefore(x), 0);
        }
    }

    private static void wrongNumberComesFirst(Check check) {
        WordSets x = new WordSets();
        Use.feed(x, "a".repeat(80));
        check.throwsIllegalArgument("n of 9 on a full tape", () -> x.feed(0, 9));
        check.throwsIllegalArgument("n of 0 on a full tape", () -> x.feed(0, 0));
        check.throwsIllegalArgument("n of -1 on a full tape", () -> x.feed(0, -1));
    }
}
