import com.sun.management.ThreadMXBean;
import java.lang.management.ManagementFactory;
import java.nio.charset.StandardCharsets;

/** What a run makes stays far below the room of some 7.3 million elements: calls make next to nothing. */
public final class RoomTest {
    // A pair that reaches some 280 pairs of states, more than any other known.
    private static final byte[] WIDE = "((ab?))?*((b(a)+?b)+a?+??)?(a*b)*".getBytes(StandardCharsets.ISO_8859_1);
    private static final byte[] LONG = "((((aaaaaa)+a)+)b+)*".getBytes(StandardCharsets.ISO_8859_1);
    private static final long ONE_OBJECT = 120_000;
    private static final long ALL_CALLS = 20_000;

    public static void main(String[] args) {
        Check check = new Check("room");
        ThreadMXBean threads = (ThreadMXBean) ManagementFactory.getThreadMXBean();
        new WordSets();
        makeCalls(new WordSets());
        long before = threads.getCurrentThreadAllocatedBytes();
        WordSets x = new WordSets();
        long made = threads.getCurrentThreadAllocatedBytes();
        makeCalls(x);
        long after = threads.getCurrentThreadAllocatedBytes();
        System.out.println("bytes of an object: " + (made - before) + ", of its calls: " + (after - made));
        check.equal("an object stays small", made - before < ONE_OBJECT, true);
        check.equal("calls make next to nothing", after - made < ALL_CALLS, true);
        check.end();
    }

    private static void makeCalls(WordSets x) {
        for (int i = 0; i < 28; i++) {
            readText(x, 0, WIDE);
            readText(x, 1, LONG);
            x.compare(0, 1);
            x.contains(0, 1);
            x.least(1);
            x.states(0);
            x.count(0, 30);
            x.word(0, 30, 5);
            x.turn(0, 2);
            x.turn(2, 2);
        }
    }

    private static void readText(WordSets x, int slot, byte[] text) {
        long bytes = 0;
        for (int i = 0; i < text.length; i++) {
            bytes = bytes << 8 | text[i];
            if (i % 8 == 7 || i == text.length - 1) {
                x.feed(bytes, i % 8 + 1);
            }
        }
        x.read(slot);
    }
}
