/** Counts answers against what is due and tells the outcome. */
final class Check {
    private final String title;
    private int passed = 0;
    private int failed = 0;

    Check(String title) {
        this.title = title;
    }

    void due(String call, long got, long due) {
        if (got == due) {
            passed++;
            return;
        }
        failed++;
        // A broken program may fail thousands of times; the first rows are enough to find out why.
        if (failed <= 40) {
            System.out.println(title + ": " + call + " answered " + got + ", due is " + due);
        }
    }

    void holds(String what, boolean so) {
        due(what, so ? 1 : 0, 1);
    }

    void end() {
        System.out.println(title + ": " + passed + " answers as due, " + failed + " not");
        if (failed != 0) {
            System.exit(1);
        }
    }
}
