/** Runs all tests of the project; the last line counts them. */
public final class AllTests {
    private static final int RANDOM_RUNS = 1000;

    private AllTests() {
    }

    public static void main(String[] args) {
        FaceTests.all();
        LanguageTests.all();
        ReadmeTests.all();
        PromiseTests.all();
        LinkBoundaries.all();
        CellBoundaries.all();
        ExtentBoundaries.all();
        SelectionBoundaries.all();
        Stories.all();
        MixedRuns.all();
        RandomRuns.all(RANDOM_RUNS);
        System.out.println(Due.sentences + " sentences: " + Due.passed + " passed, " + Due.failed + " failed");
        if (Due.failed != 0) {
            System.exit(1);
        }
    }
}
