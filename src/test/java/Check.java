/** Counts answers against what is due and tells the outcome. */
final class Check {
    /** Far more than any test takes, so that a call that never ends is a failure and no endless wait. */
    private static final long MOST_MILLISECONDS = 600_000;

    private final String title;
    private volatile String test;
    private int tests = 0;
    private int passed = 0;
    private int failed = 0;

    Check(String title) {
        this.title = title;
        test = title;
        Thread watch = new Thread(this::endTooLate);
        watch.setDaemon(true);
        watch.start();
    }

    private void endTooLate() {
        try {
            Thread.sleep(MOST_MILLISECONDS);
        } catch (InterruptedException e) {
            return;
        }
        System.out.println(title + ": a call does not end; it is one of: " + test);
        Runtime.getRuntime().halt(1);
    }

    /** A test of its own: what fails from now on is told under its name. */
    void begin(String name) {
        test = name;
        tests++;
    }

    void due(String call, long got, long due) {
        if (got == due) {
            passed++;
            return;
        }
        failed++;
        // A broken program may fail thousands of times; the first rows are enough to find out why.
        if (failed <= 40) {
            System.out.println(test + ": " + call + " answered " + got + ", due is " + due);
        }
    }

    void holds(String what, boolean so) {
        due(what, so ? 1 : 0, 1);
    }

    void end() {
        String parts = tests == 0 ? "" : tests + " tests, ";
        System.out.println(title + ": " + parts + passed + " answers as due, " + failed + " not");
        if (failed != 0) {
            System.exit(1);
        }
    }
}
