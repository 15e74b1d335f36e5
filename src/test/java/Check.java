/** Counts the answers of a test and tells those that are not due. */
final class Check {
    static final int INVALID = -1000001;
    static final int NOT_POSSIBLE = -1000002;
    static final int LIMIT = -1000003;
    static final int NOT_FOUND = -1000004;

    private final String title;
    private int passed;
    private int failed;

    Check(String title) {
        this.title = title;
    }

    void due(String call, long want, long got) {
        if (got == want) {
            passed++;
        } else {
            failed++;
            System.out.println(title + ": " + call + " answered " + got + ", due is " + want);
        }
    }

    int failures() {
        return failed;
    }

    /** Tells the sum, and ends the program with 1 if an answer was not due. */
    void end() {
        System.out.println(title + ": " + passed + " passed, " + failed + " failed");
        if (failed != 0 || passed == 0) {
            System.exit(1);
        }
    }

    /** Types a text, which must fit. */
    static void write(FairBooks x, String text) {
        x.clearText();
        for (int i = 0; i < text.length(); i++) {
            x.type(text.charAt(i));
        }
    }
}
