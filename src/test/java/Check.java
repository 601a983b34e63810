/** Counts the answers of one test and prints those that are not as due. */
final class Check {
    private final String test;
    private String sentence = "";
    private int passed;
    private int failed;

    Check(String test) {
        this.test = test;
    }

    /** The document's words that the checks from here on are for; SentenceTest looks that none of its words lacks one. */
    void sentence(String words) {
        sentence = " (\"" + words + "\")";
    }

    void is(String call, int got, int due) {
        if (got == due) {
            passed++;
        } else {
            fail(call + " answered " + got + ", due is " + due);
        }
    }

    void is(String call, boolean got, boolean due) {
        is(call, got ? 1 : 0, due ? 1 : 0);
    }

    /** Of two portraits the first line in which they are not alike is told. */
    void same(String what, String got, String due) {
        if (got.equals(due)) {
            passed++;
            return;
        }
        String[] a = got.split("\n");
        String[] b = due.split("\n");
        int at = 0;
        while (at < a.length && at < b.length && a[at].equals(b[at])) {
            at++;
        }
        fail(what + ": " + (at < a.length ? a[at] : "nothing") + ", due is " + (at < b.length ? b[at] : "nothing"));
    }

    private void fail(String what) {
        failed++;
        System.out.println(test + ": " + what + sentence);
    }

    /** Prints the counts; the test's last line. */
    void close() {
        System.out.println(test + ": " + passed + " passed, " + failed + " failed");
        if (failed > 0) {
            System.exit(1);
        }
    }
}
