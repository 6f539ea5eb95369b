/** Counts answers that are as due and prints those that are not. */
final class Tally {
    private static final int MOST_PRINTED = 200;
    private int passed;
    private int failed;

    void due(String call, long got, long want) {
        if (got == want) {
            passed++;
            return;
        }
        failed++;
        if (failed <= MOST_PRINTED) {
            System.out.println("FAILED " + call + " answered " + got + ", due is " + want);
        }
    }

    void holds(String what, boolean stands) {
        due(what, stands ? 1 : 0, 1);
    }

    int failures() {
        return failed;
    }

    String summary() {
        return passed + " passed, " + failed + " failed";
    }
}
