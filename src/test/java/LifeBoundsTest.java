/** The 512th call of an object still answers what is due. */
final class LifeBoundsTest {
    private static final int CALLS = 512;

    private final Bounds bounds;
    private PackageForge forge;

    private LifeBoundsTest(Bounds bounds) {
        this.bounds = bounds;
    }

    static void run(Bounds bounds) {
        bounds.sentence("What it is",
                "An object is used for at most 512 calls after it has been made; what later calls answer is free.");
        LifeBoundsTest test = new LifeBoundsTest(bounds);
        test.funds();
        test.compilings();
        test.testings();
        test.refusals();
        test.needs();
        test.relocks();
    }

    private void funds() {
        forge = new PackageForge();
        for (int call = 1; call < CALLS; call++) {
            forge.fund(2, 9999);
        }
        bounds.due("the greatest budget", CALLS * 9999, () -> forge.fund(2, 9999));
    }

    private void compilings() {
        forge = Forges.withPackages(1);
        for (int call = 2; call < CALLS; call += 2) {
            forge.setSource(0, call % 1000, call / 2 % 2);
            forge.compile(0);
        }
        bounds.due("compiled with each other call", CALLS / 2 - 1, forge::compiled);
    }

    private void testings() {
        forge = Forges.withPackages(1);
        forge.addTest(0, 1);
        forge.fund(0, 9999);
        forge.compile(0);
        for (int call = 5; call < CALLS - 1; call += 2) {
            forge.setFailing(0, call % 4 == 1);
            forge.test(0);
        }
        bounds.due("after 253 results", 7, () -> forge.flaky(0));
        bounds.due("paid 253 times", 9999 - 253, () -> forge.budget(0));
    }

    private void refusals() {
        forge = new PackageForge();
        for (int call = 1; call < CALLS; call++) {
            Expect.outcome(() -> forge.addPackage(3));
        }
        bounds.due("after refusals alone", 0, () -> forge.addPackage(2));
    }

    private void needs() {
        forge = Forges.withThreeReleases(2);
        for (int call = 13; call < CALLS; call++) {
            forge.need(1, 0, 100, call % 2 == 0 ? 199 : 200);
        }
        bounds.due("the last range counts", 200, () -> forge.chosenByAll(1, 0));
    }

    private void relocks() {
        forge = Forges.withThreeReleases(2);
        forge.need(1, 0, 100, 999);
        Forges.release(forge, 1);
        for (int call = 17; call < CALLS; call++) {
            forge.relock(1, 100);
        }
        bounds.due("still locked", 200, () -> forge.locked(1, 100, 0));
    }
}
