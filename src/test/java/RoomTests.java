import java.lang.management.ManagementFactory;
import java.util.Arrays;
import java.util.List;

/**
 * All calls of one run live in one room: no call makes an object. They run ahead of all other tests, for the Java
 * machine may leave out objects in code that has become warm.
 */
final class RoomTests {
    private static final int ROUNDS = 5;
    private static final String TEXT = "rider 3 2;rider 5 1;rider 6 9;top 1;sledges 1 1;minutes 90;move 10";
    /** On a new object each round, in this order, so that all but the last are taken. */
    private static final List<Call> ROUND = List.of(
        Call.of("hill", 0), Call.of("fault"), Call.of("rider", 1, 0), Call.of("image"), Call.of("riderOf", 0, 1),
        Call.of("tell", 0, 1, 40), Call.of("ask", 0, 999), Call.of("sledges", 2, 1), Call.of("row", 1, 3, 160),
        Call.of("set", 1, 0, 400), Call.of("copy", 1, 1, 0, 1, 100), Call.of("element", 1, 0), Call.of("fits", 1),
        Call.of("judge", 1, 60), Call.of("behind", 1, 1, 2), Call.of("done", 1, 1), Call.of("show", 2, 0),
        Call.of("holds", 2), Call.of("says", 2, 3), Call.of("takes", 312), Call.of("may", 312), Call.of("next", 1),
        Call.of("ahead", 3, 1), Call.of("by", 0, 5), Call.of("by", 1, 5), Call.of("by", 2, 5), Call.of("by", 3, 5),
        Call.of("fair", 3), Call.of("best", 0), Call.of("best", 1), Call.of("road", 0, 1, 500, 20, 1),
        Call.of("pennies", 9), Call.of("who", 2), Call.of("move", 410), Call.of("goes", 0, 9), Call.of("goes", 1, 9),
        Call.of("goes", 2, 9), Call.of("goes", 3, 60), Call.of("winter", 60), Call.of("seed", 9),
        Call.of("act", 2, 2, 77), Call.of("trace", 3), Call.of("restore"), Call.of("day", 999), Call.of("status", 9),
        Call.of("row", -1, 0, 0));

    private RoomTests() {
    }

    static void run(Tally t) {
        if (!(ManagementFactory.getThreadMXBean() instanceof com.sun.management.ThreadMXBean)) {
            System.out.println("RoomTests: this Java machine doesn't tell what a thread has taken");
            return;
        }
        com.sun.management.ThreadMXBean bean = (com.sun.management.ThreadMXBean) ManagementFactory.getThreadMXBean();
        long[] fewest = new long[ROUND.size()];
        Arrays.fill(fewest, Long.MAX_VALUE);
        for (int round = 0; round < ROUNDS; round++) {
            round(t, bean, fewest);
        }
        for (int i = 0; i < fewest.length; i++) {
            t.due("room: bytes taken by " + ROUND.get(i).told(), fewest[i], 0);
        }
    }

    /** The fewest of several rounds: the first round has the machine's own bytes too, for classes and words. */
    private static void round(Tally t, com.sun.management.ThreadMXBean bean, long[] fewest) {
        OneSledgeForTwo x = new OneSledgeForTwo();
        Texts.put(x, 0, 0, TEXT);
        for (int i = 0; i < fewest.length; i++) {
            Call call = ROUND.get(i);
            long before = bean.getCurrentThreadAllocatedBytes();
            long answer = call.of(x);
            fewest[i] = Math.min(fewest[i], bean.getCurrentThreadAllocatedBytes() - before);
            boolean isRefusal = answer < 0 && answer >= -7 && !call.name().equals("fault");
            t.holds("room: taken: " + call.told(), isRefusal == (i == fewest.length - 1));
        }
    }
}
