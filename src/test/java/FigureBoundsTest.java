/** Boundary cases of promises 26 and 27. */
final class FigureBoundsTest {
    private final Bounds bounds;
    private PackageForge forge;

    private FigureBoundsTest(Bounds bounds) {
        this.bounds = bounds;
    }

    static void run(Bounds bounds) {
        FigureBoundsTest test = new FigureBoundsTest(bounds);
        test.shareOfNone();
        test.shareFromAllToNone();
        test.staleOnes();
        test.meanOfNone();
        test.meanOfFew();
        test.meanOfMany();
    }

    private void share(String what, float due) {
        bounds.due(what, due, forge::goodShare);
    }

    private void mean(String what, double due) {
        bounds.due(what, due, forge::meanPaid);
    }

    private void shareOfNone() {
        bounds.sentence("Promise 26", "Throws `ArithmeticException` if there are no releases");
        bounds.refused("a new forge", ArithmeticException.class, PackageForge::new, PackageForge::goodShare);
        bounds.refused("packages without releases", ArithmeticException.class, FigureBoundsTest::testedOnly,
                PackageForge::goodShare);
        forge = testedOnly();
        forge.publish(0);
        share("one release", 1f);
    }

    private static PackageForge testedOnly() {
        PackageForge each = States.of(6);
        each.compile(0);
        each.test(0);
        return each;
    }

    private void shareFromAllToNone() {
        bounds.sentence("Promise 26", "Returns their number divided by that of all releases, both converted to float.");
        forge = Forges.withPackages(1);
        for (int i = 0; i < 20; i++) {
            Forges.release(forge, 0);
            share("all of " + (i + 1), 1f);
        }
        for (int i = 1; i <= 20; i++) {
            forge.yank(0, 120 - i);
            share((20 - i) + " of 20", (20 - i) / 20f);
        }
        forge = Forges.withThreeReleases(1);
        forge.yank(0, 100);
        share("two thirds, as a float", 2f / 3f);
        forge.yank(0, 200);
        share("a third, as a float", 1f / 3f);
    }

    private void staleOnes() {
        bounds.sentence("Promise 26", "Returns the share of the releases that are neither yanked nor stale.");
        forge = Forges.withPackages(3);
        Forges.release(forge, 0);
        forge.need(1, 0, 100, 999);
        Forges.release(forge, 1);
        forge.need(2, 1, 100, 999);
        Forges.release(forge, 2);
        share("all three", 1f);
        forge.yank(0, 100);
        share("one is yanked, two are stale", 0f);
        forge.publish(0);
        share("a new one", 0.25f);
        forge.relock(1, 100);
        share("one is locked anew", 0.5f);
        forge.yank(2, 100);
        share("a stale one is yanked", 0.5f);
        forge.yank(1, 100);
        share("a good one is yanked", 0.25f);
    }

    private void meanOfNone() {
        bounds.sentence("Promise 27", "Throws `ArithmeticException` if none was tested");
        Class<? extends RuntimeException> refusal = ArithmeticException.class;
        bounds.refused("a new forge", refusal, PackageForge::new, PackageForge::meanPaid);
        bounds.refused("compiled, and refused to be tested", refusal, FigureBoundsTest::withoutMinutes,
                PackageForge::meanPaid);
    }

    private static PackageForge withoutMinutes() {
        PackageForge each = States.of(1);
        each.addTest(0, 10);
        each.fund(0, 9);
        each.compile(0);
        Expect.outcome(() -> each.test(0));
        return each;
    }

    private void meanOfFew() {
        bounds.sentence("Promise 27", "Returns the mean of what was paid for testing a package once.");
        forge = Forges.withPackages(2);
        forge.compile(0);
        forge.compile(1);
        forge.test(0);
        mean("nothing was paid", 0.0);
        forge.addTest(1, 1);
        forge.fund(1, 9);
        forge.test(1);
        mean("1 of 2 times", 0.5);
        forge.test(0);
        mean("1 of 3 times, as a double", 1.0 / 3.0);
        forge.setFailing(0, true);
        forge.test(1);
        mean("one that fails is paid too", 0.5);
        forge.fund(0, 9999);
        forge.addTest(1, 9);
        mean("what is not run is not paid", 0.5);
        bounds.due("too few minutes", IllegalStateException.class, () -> forge.test(1));
        mean("what is refused is not paid", 0.5);
    }

    private void meanOfMany() {
        bounds.sentence("Promise 27", "Returns the minutes that were paid divided by how often packages were tested,"
                + " both converted to double.");
        forge = Forges.withPackages(1);
        for (int test = 0; test < 8; test++) {
            forge.addTest(0, 60);
        }
        for (int i = 0; i < 20; i++) {
            forge.fund(0, 9999);
        }
        forge.compile(0);
        for (int i = 0; i < 400; i++) {
            forge.test(0);
        }
        mean("the most a time", 480.0);
        PackageForge thirds = Forges.withPackages(2);
        thirds.addTest(0, 10);
        thirds.fund(0, 10);
        thirds.compile(0);
        thirds.compile(1);
        thirds.test(0);
        thirds.test(1);
        thirds.test(1);
        bounds.due("10 of 3 times, as a double", 10.0 / 3.0, thirds::meanPaid);
    }
}
