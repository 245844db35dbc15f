import java.io.IOException;

/** Runs every test of the project, with the project's folder as the present one. */
public final class AllTests {
    private AllTests() {
    }

    public static void main(String[] args) throws IOException {
        FaceTest.run();
        ReadmeTest.run();
        ServicesTest.run();
        CallsTest.run();
        TickTest.run();
        TriesTest.run();
        BreakerTest.run();
        ReadingsTest.run();
        RefusedTest.run();
        LimitsTest.run();
        CapacityTest.run();
        DeadlineTest.run();
        TokensTest.run();
        TryEdgeTest.run();
        BreakerEdgeTest.run();
        StatesTest.run();
        ModelTest.run();
        if (!Check.close()) {
            System.exit(1);
        }
    }
}
