/** Boundary cases, sentence by sentence; no sentence of the document is left out. */
final class BoundsTest {
    static void run(Expect expect) {
        Bounds bounds = new Bounds(expect);
        HeadingsTest.run(bounds);
        LifeBoundsTest.run(bounds);
        PackageBoundsTest.run(bounds);
        ChoiceBoundsTest.run(bounds);
        CompileBoundsTest.run(bounds);
        MachineBoundsTest.run(bounds);
        FlakyBoundsTest.run(bounds);
        PublishBoundsTest.run(bounds);
        LockBoundsTest.run(bounds);
        FigureBoundsTest.run(bounds);
        OrderBoundsTest.run(bounds);
        bounds.allSentencesAreHeld();
    }
}
