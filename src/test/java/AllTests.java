/** Runs every test of the project; exit code 1 if one fails. */
public final class AllTests {
    private AllTests() {
    }

    public static void main(String[] args) throws Exception {
        Checks checks = new Checks();
        CourtTests[] workedByHand = {
            new PromiseTests(checks), new TrialEdges(checks), new WorldEdges(checks), new ShelfEdges(checks),
            new RangeTests(checks), new RefusalTests(checks)
        };
        for (CourtTests tests : workedByHand) {
            tests.runAll();
        }
        new LanguageTests(checks).runAll();
        new ReadmeTests(checks).runAll();
        new RandomRuns(checks).runAll();
        System.out.println(checks.passed() + " passed, " + checks.failed() + " failed");
        if (checks.failed() != 0 || checks.passed() == 0) {
            System.exit(1);
        }
    }
}
