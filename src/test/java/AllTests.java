/** Runs the project's tests; ends with exit code 1 if an answer is not the one that is due. */
public final class AllTests {
    public static void main(String[] args) {
        Expect expect = new Expect();
        FaceTest.run(expect);
        PackagesTest.run(expect);
        ChoicesTest.run(expect);
        CompilingTest.run(expect);
        TestingTest.run(expect);
        FlakinessTest.run(expect);
        PublishingTest.run(expect);
        YankingTest.run(expect);
        FiguresTest.run(expect);
        RefusalTest.run(expect);
        BoundsTest.run(expect);
        ModelTest.run(expect);
        RoomTest.run(expect);
        ReadmeTest.run(expect);
        System.out.println(expect.passed() + " answers as due, " + expect.failed() + " not");
        if (expect.failed() != 0 || expect.passed() == 0) {
            System.exit(1);
        }
    }
}
