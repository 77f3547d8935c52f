/** The boundary cases that one heading of the document names: a test for each sentence, each counted alone. */
final class Edges {
    interface Test {
        void run(Check check);
    }

    private final String heading;
    private boolean asDue = true;

    Edges(String heading) {
        this.heading = heading;
    }

    /** A test that throws fails; those behind it are run nevertheless. */
    void sentence(String sentence, Test test) {
        Check check = new Check(heading + ", \"" + sentence + "\"");
        try {
            test.run(check);
        } catch (RuntimeException e) {
            check.fail("the test itself threw " + e);
        }
        asDue &= check.report();
    }

    void end() {
        if (!asDue) {
            System.exit(1);
        }
    }
}
