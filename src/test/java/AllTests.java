/** Runs every test of the project; its first argument is the path of OneSledgeForTwo.java. */
public final class AllTests {
    private AllTests() {
    }

    public static void main(String[] args) throws Exception {
        Tally t = new Tally();
        ShelfTests.run(t);
        HillTests.run(t);
        MoveTests.run(t);
        RuleTests.run(t);
        AfternoonTests.run(t);
        ActTests.run(t);
        ImageTests.run(t);
        System.out.println(t.summary());
        if (t.failures() != 0) {
            System.exit(1);
        }
    }
}
