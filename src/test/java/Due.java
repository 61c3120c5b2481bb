/** Counts the answers that were due and those that were not given. */
final class Due {
    private int passed;
    private int failed;
    private String promise = "";

    void promise(String name) {
        promise = name;
    }

    void is(String call, long got, long want) {
        if (got == want) {
            passed++;
            return;
        }
        failed++;
        if (failed <= 40) {
            System.out.println(promise + ": " + call + " answered " + got + ", due is " + want);
        }
    }

    void is(String call, boolean got, boolean want) {
        is(call, got ? 1 : 0, want ? 1 : 0);
    }

    int failures() {
        return failed;
    }

    void close() {
        System.out.println(passed + " passed, " + failed + " failed");
        if (failed != 0) {
            System.exit(1);
        }
    }
}
