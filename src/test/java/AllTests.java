import java.nio.file.Files;
import java.nio.file.Path;

/** Runs every test of the project; its arguments are the paths of OneSledgeForTwo.java and of README.md. */
public final class AllTests {
    private static final int MODEL_RUNS = 1200;

    private AllTests() {
    }

    public static void main(String[] args) throws Exception {
        Tally t = new Tally();
        RoomTests.run(t);
        ShelfTests.run(t);
        HillTests.run(t);
        MoveTests.run(t);
        RuleTests.run(t);
        AfternoonTests.run(t);
        ActTests.run(t);
        ImageTests.run(t);
        HillEdgeTests.run(t);
        MoveEdgeTests.run(t);
        RuleEdgeTests.run(t);
        AfternoonEdgeTests.run(t);
        ShelfEdgeTests.run(t);
        RefusalTests.run(t);
        ModelTests.run(t, MODEL_RUNS);
        FaceTests.run(t, Path.of(args[0]));
        ReadmeTests.run(t, Files.readString(Path.of(args[1])));
        System.out.println(t.summary());
        if (t.failures() != 0) {
            System.exit(1);
        }
    }
}
