/** The boundary cases of all promises, each one a test with a name that tells the promise. */
public final class BoundaryTest {
    private static final int PROMISES = 37;

    private BoundaryTest() {
    }

    public static void main(String[] args) {
        TermsBoundary.run();
        WordsBoundary.run();
        SettingsBoundary.run();
        LinesBoundary.run();
        PagesBoundary.run();
        ForecastsBoundary.run();
        InputBoundary.run();
        UndoBoundary.run();
        for (int promise = 1; promise <= PROMISES; promise++) {
            String beginning = "Promise " + promise + ", ";
            Check.isTrue(beginning + "has tests", Check.countTests(beginning) > 0);
        }
        Check.end();
    }
}
