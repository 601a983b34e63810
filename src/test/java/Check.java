/** Counts the answers of one test and prints those that are not as due. */
final class Check {
    private final String test;
    private int passed;
    private int failed;

    Check(String test) {
        this.test = test;
    }

    void is(String call, int got, int due) {
        if (got == due) {
            passed++;
        } else {
            failed++;
            System.out.println(test + ": " + call + " answered " + got + ", due is " + due);
        }
    }

    void is(String call, boolean got, boolean due) {
        is(call, got ? 1 : 0, due ? 1 : 0);
    }

    /** Prints the counts; the test's last line. */
    void close() {
        System.out.println(test + ": " + passed + " passed, " + failed + " failed");
        if (failed > 0) {
            System.exit(1);
        }
    }
}
