/** Counts and prints what is not as due; a test ends with exit code 1 if there was any. */
final class Check {
    /** A call whose answer does not matter, only what it throws. */
    interface Call {
        void make();
    }

    private static final int SHOWN = 40;

    private final String name;
    private int wrong = 0;
    private int made = 0;

    Check(String name) {
        this.name = name;
    }

    void equal(String what, long got, long due) {
        made++;
        if (got != due) {
            complain(what + " answered " + got + ", due is " + due);
        }
    }

    void equal(String what, boolean got, boolean due) {
        equal(what, got ? 1 : 0, due ? 1 : 0);
    }

    void equal(String what, String got, String due) {
        made++;
        if (!got.equals(due)) {
            complain(what + " answered \"" + got + "\", due is \"" + due + "\"");
        }
    }

    /** The very class, not one below it. */
    void throwsA(String what, Class<? extends RuntimeException> due, Call call) {
        made++;
        try {
            call.make();
        } catch (RuntimeException e) {
            if (e.getClass() != due) {
                complain(what + " threw " + e.getClass().getName() + ", due is " + due.getName());
            }
            return;
        }
        complain(what + " threw nothing, due is " + due.getName());
    }

    void throwsIllegalArgument(String what, Call call) {
        throwsA(what, IllegalArgumentException.class, call);
    }

    /** For a test that can't go on. */
    void fail(String text) {
        made++;
        complain(text);
    }

    private void complain(String text) {
        wrong++;
        if (wrong <= SHOWN) {
            System.out.println(name + ": " + text);
        }
    }

    /** Prints how many were as due; whether all were, and there was at least one. */
    boolean report() {
        System.out.println(name + ": " + (made - wrong) + " of " + made + " as due");
        return wrong == 0 && made > 0;
    }

    void end() {
        if (!report()) {
            System.exit(1);
        }
    }
}
