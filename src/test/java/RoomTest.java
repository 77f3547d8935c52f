import com.sun.management.ThreadMXBean;
import java.lang.management.ManagementFactory;
import java.nio.charset.StandardCharsets;

/** What a run makes stays far below the room of some 7.3 million elements: calls make next to nothing. */
public final class RoomTest {
    private static final long ONE_OBJECT = 120_000;
    private static final long ALL_CALLS = 20_000;
    private static final byte[][][] PAIRS = {
        // They part only at the 373rd pair of states, later than any others known.
        {bytes("(b+(a+b+(a+b+)?)?a)*(ab+)*"), bytes("((b+a*ba*b)+(ab+a)+)+")},
        {bytes("((ab?))?*((b(a)+?b)+a?+??)?(a*b)*"), bytes("((((aaaaaa)+a)+)b+)*")},
        // These go round among few pairs: a search that forgets where it has been does not soon end.
        {bytes("a*"), bytes("(aa)*a?")},
        {bytes("(aa)*a?"), bytes("a*")},
        {bytes("(a|b)*"), bytes("((a|b)(a|b))*(a|b)?")},
        {bytes("(aaa)*(1|a|aa)"), bytes("(aaaa)*a?a?a?")},
    };

    public static void main(String[] args) {
        Check check = new Check("room");
        makeCalls(new WordSets(), PAIRS[0]);
        for (byte[][] pair : PAIRS) {
            measure(check, pair);
        }
        check.end();
    }

    private static byte[] bytes(String text) {
        return text.getBytes(StandardCharsets.ISO_8859_1);
    }

    private static void measure(Check check, byte[][] pair) {
        ThreadMXBean threads = (ThreadMXBean) ManagementFactory.getThreadMXBean();
        long before = threads.getCurrentThreadAllocatedBytes();
        WordSets x = new WordSets();
        long made = threads.getCurrentThreadAllocatedBytes();
        makeCalls(x, pair);
        long after = threads.getCurrentThreadAllocatedBytes();
        System.out.println("bytes of an object: " + (made - before) + ", of its calls: " + (after - made));
        check.equal("an object stays small", made - before < ONE_OBJECT, true);
        check.equal("calls make next to nothing", after - made < ALL_CALLS, true);
    }

    private static void makeCalls(WordSets x, byte[][] pair) {
        for (int i = 0; i < 28; i++) {
            readText(x, 0, pair[0]);
            readText(x, 1, pair[1]);
            x.compare(0, 1);
            x.contains(0, 1);
            x.least(1);
            x.states(0);
            x.count(0, 30);
            x.word(0, 30, 5);
            x.turn(0, 2);
            x.turn(2, 2);
        }
    }

    private static void readText(WordSets x, int slot, byte[] text) {
        long bytes = 0;
        for (int i = 0; i < text.length; i++) {
            bytes = bytes << 8 | text[i];
            if (i % 8 == 7 || i == text.length - 1) {
                x.feed(bytes, i % 8 + 1);
            }
        }
        x.read(slot);
    }
}
