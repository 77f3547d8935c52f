/** All promises together: runs of up to 512 calls by chance, each answer against the model's. */
public final class MixedCallsTest {
    private static final long THROWN = Long.MIN_VALUE;

    /** One call, on the class and on the model. */
    private record Call(int kind, int a, int b, long c) {
        long onClass(WordSets x) {
            switch (kind) {
                case 0: return x.feed(c, a);
                case 1: return x.read(a);
                case 2: return x.place();
                case 3: return x.has(a) ? 1 : 0;
                case 4: return x.compare(a, b);
                case 5: return x.contains(a, b) ? 1 : 0;
                case 6: return x.least(a);
                case 7: return x.count(a, b);
                case 8: return x.word(a, b, c) ? 1 : 0;
                case 9: return x.states(a);
                case 10: x.turn(a, b); return 0;
                case 11: return x.size();
                default: return x.letter(a);
            }
        }

        long onModel(Model x) {
            switch (kind) {
                case 0: return x.feed(c, a);
                case 1: return x.read(a);
                case 2: return x.place();
                case 3: return x.has(a) ? 1 : 0;
                case 4: return x.compare(a, b);
                case 5: return x.contains(a, b) ? 1 : 0;
                case 6: return x.least(a);
                case 7: return x.count(a, b);
                case 8: return x.word(a, b, c) ? 1 : 0;
                case 9: return x.states(a);
                case 10: x.turn(a, b); return 0;
                case 11: return x.size();
                default: return x.letter(a);
            }
        }
    }

    private final Check check = new Check("mixed calls");
    private final Texts chance = new Texts(13);

    public static void main(String[] args) {
        MixedCallsTest test = new MixedCallsTest();
        for (int run = 0; run < 120; run++) {
            test.run(run);
        }
        test.check.end();
    }

    private void run(int run) {
        WordSets x = new WordSets();
        Model model = new Model();
        String waiting = "";
        for (int i = 0; i < 511; i++) {
            if (waiting.isEmpty() && chance.below(3) == 0) {
                waiting = text();
            }
            Call call;
            if (waiting.isEmpty() || chance.below(12) == 0) {
                call = call();
            } else {
                int n = Math.min(waiting.length(), 1 + chance.below(8));
                call = new Call(0, n, 0, packed(waiting.substring(0, n)));
                waiting = waiting.substring(n);
            }
            compare("run " + run + " call " + i + " " + call, call, x, model);
            if (call.kind() == 0 && waiting.isEmpty()) {
                Call use = new Call(chance.below(4) == 0 ? 3 : 1, slot(), 0, 0);
                compare("run " + run + " use " + i + " " + use, use, x, model);
                i++;
            }
        }
    }

    private String text() {
        switch (chance.below(6)) {
            case 0: return chance.spoiled();
            case 1: return chance.word(10);
            case 2: return chance.crowded();
            default: return chance.right(1 + chance.below(4));
        }
    }

    private long packed(String text) {
        long bytes = chance.below(1 << 30);
        for (int i = 0; i < text.length(); i++) {
            bytes = bytes << 8 | text.charAt(i);
        }
        return bytes;
    }

    private int slot() {
        return chance.below(25) == 0 ? chance.below(12) - 4 : chance.below(4);
    }

    private Call call() {
        int kind = chance.below(13);
        switch (kind) {
            case 0: return new Call(kind, chance.below(11) - 1, 0, chance.below(1 << 30));
            case 7: return new Call(kind, slot(), chance.below(34) - 1, 0);
            case 8: return new Call(kind, slot(), chance.below(15) == 0 ? -1 : chance.below(6), chance.below(40) - 1);
            case 12: return new Call(kind, chance.below(8) - 1, 0, 0);
            default: return new Call(kind, slot(), slot(), 0);
        }
    }

    private void compare(String what, Call call, WordSets x, Model model) {
        Class<?> thrown = null;
        Class<?> dueThrown = null;
        long got = THROWN;
        long due = THROWN;
        try {
            got = call.onClass(x);
        } catch (RuntimeException e) {
            thrown = e.getClass();
        }
        try {
            due = call.onModel(model);
        } catch (RuntimeException e) {
            dueThrown = e.getClass();
        }
        check.equal(what, got, due);
        check.equal(what, String.valueOf(thrown), String.valueOf(dueThrown));
    }
}
