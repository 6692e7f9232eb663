/** Runs all tests of the project; the exit code is 1 if one failed. */
public final class AllTests {
    private AllTests() {
    }

    public static void main(String[] args) throws Exception {
        ToldTest.run();
        WalkTest.run();
        ForetoldTest.run();
        TextBoundsTest.run();
        WalkBoundsTest.run();
        ForetoldBoundsTest.run();
        ModelTest.run();
        LanguageTest.run(args.length > 0 ? args[0] : "src/main/java/RoseLane.java");
        ReadmeTest.run();
        System.out.println(Due.passed + " passed, " + Due.failed + " failed");
        System.exit(Due.failed == 0 ? 0 : 1);
    }
}
