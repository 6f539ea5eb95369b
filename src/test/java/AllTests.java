import java.nio.file.Path;

/** Runs every test of the project; its first argument is the path of OneSledgeForTwo.java. */
public final class AllTests {
    private static final int MODEL_RUNS = 1200;

    private AllTests() {
    }

    public static void main(String[] args) throws Exception {
        Tally t = new Tally();
        ShelfTests.run(t);
        HillTests.run(t);
        MoveTests.run(t);
        RuleTests.run(t);
        AfternoonTests.run(t);
        ActTests.run(t);
        ImageTests.run(t);
        HillEdgeTests.run(t);
        MoveEdgeTests.run(t);
        RuleEdgeTests.run(t);
        AfternoonEdgeTests.run(t);
        ShelfEdgeTests.run(t);
        RefusalTests.run(t);
        ModelTests.run(t, MODEL_RUNS);
        FaceTests.run(t, Path.of(args[0]));
        System.out.println(t.summary());
        if (t.failures() != 0) {
            System.exit(1);
        }
    }
}
