/** Runs every test of the project; ends with exit code 1 if an answer was wrong. */
public final class AllTests {
    public static void main(String[] args) {
        boolean good = ScaleTests.pass();
        good &= BinTests.pass();
        good &= BatchTests.pass();
        good &= BeltTests.pass();
        good &= ScaleBounds.pass();
        good &= BinBounds.pass();
        good &= StateBounds.pass();
        good &= StepBounds.pass();
        good &= BatchBounds.pass();
        good &= BeltBounds.pass();
        good &= RefusedCalls.pass();
        good &= RandomTests.pass();
        if (!good) {
            System.exit(1);
        }
    }
}
