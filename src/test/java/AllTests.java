/** Runs every test of the project. */
public final class AllTests {
    private AllTests() {
    }

    public static void main(String[] args) {
        FaceTest.run();
        ServicesTest.run();
        CallsTest.run();
        TickTest.run();
        TriesTest.run();
        BreakerTest.run();
        ReadingsTest.run();
        RefusedTest.run();
        LimitsTest.run();
        CapacityTest.run();
        DeadlineTest.run();
        TokensTest.run();
        TryEdgeTest.run();
        BreakerEdgeTest.run();
        StatesTest.run();
        ModelTest.run();
        if (!Check.close()) {
            System.exit(1);
        }
    }
}
