/** Boundary cases of promises 17 and 18, and what the terms say of records. */
final class FlakyBoundsTest {
    private static final String TURNS = "Returns how many results in its record differ from the one ahead of them.";

    private final Bounds bounds;
    private PackageForge forge;

    private FlakyBoundsTest(Bounds bounds) {
        this.bounds = bounds;
    }

    static void run(Bounds bounds) {
        FlakyBoundsTest test = new FlakyBoundsTest(bounds);
        test.lastEight();
        test.turnsOfShortRecords();
        test.recordWithoutRuns();
        test.flakyOfNoTest();
        test.flakiestOfSeveral();
        test.flakiestOfNone();
    }

    private void open(int tests) {
        forge = Forges.withPackages(2);
        for (int test = 0; test < tests; test++) {
            forge.addTest(0, 1);
        }
        forge.fund(0, 9999);
        forge.compile(0);
    }

    /** A result for each sign: F where the test fails. */
    private void results(int test, String signs) {
        for (char sign : signs.toCharArray()) {
            forge.setFailing(test, sign == 'F');
            forge.test(0);
        }
    }

    private void flaky(String record, int due, int test) {
        bounds.due(record, due, () -> forge.flaky(test));
    }

    private void lastEight() {
        bounds.sentence("Terms", "The record of a test has its last 8 results.");
        open(1);
        results(0, "F.......");
        flaky("the eighth leaves the first one in the record", 1, 0);
        results(0, ".");
        flaky("the ninth does not", 0, 0);
        results(0, "F");
        flaky(".......F", 1, 0);
        results(0, "FFFFFF");
        flaky(".FFFFFFF", 1, 0);
        results(0, "F");
        flaky("FFFFFFFF", 0, 0);
        results(0, ".F.F.F.F");
        flaky("all eight are new", 7, 0);
        for (int i = 0; i < 20; i++) {
            results(0, ".F");
            flaky("never more than seven", 7, 0);
        }
        results(0, "FFFFFFF");
        flaky("seven more leave the last F alone", 0, 0);
    }

    private void turnsOfShortRecords() {
        bounds.sentence("Promise 17", TURNS, "Returns how flaky a test is.");
        open(1);
        flaky("no results", 0, 0);
        results(0, "F");
        flaky("the first one has none ahead of it", 0, 0);
        results(0, ".");
        flaky("F.", 1, 0);
        results(0, ".");
        flaky("F..", 1, 0);
        results(0, "F");
        flaky("F..F", 2, 0);
        results(0, ".F.F");
        flaky("F..F.F.F", 6, 0);
        results(0, ".");
        flaky("..F.F.F.: the second one has one ahead of it that is alike", 6, 0);
        results(0, "F");
        flaky(".F.F.F.F", 7, 0);
    }

    private void recordWithoutRuns() {
        bounds.sentence("Promise 17", TURNS);
        open(2);
        forge.addTest(1, 1);
        results(0, ".");
        forge.setFailing(0, true);
        flaky("set, but not run", 0, 0);
        forge.setSource(0, 0, 1);
        bounds.due("refused", IllegalStateException.class, () -> forge.test(0));
        flaky("set, but refused", 0, 0);
        forge.compile(0);
        forge.setMachines(4);
        forge.test(0);
        flaky("run at last", 1, 0);
        flaky("run as often, and always alike", 0, 1);
        flaky("of a package that was not tested", 0, 2);
    }

    private void flakyOfNoTest() {
        bounds.sentence("Promise 17", "`test`: the number of the test",
                "Throws `IndexOutOfBoundsException` if there is no such test");
        for (int test : Bounds.outside(0, 4)) {
            bounds.refused("test " + test, IndexOutOfBoundsException.class, States::busy, busy -> busy.flaky(test));
        }
        for (int test : Bounds.outside(0, 7)) {
            bounds.refused("test " + test + " of eight", IndexOutOfBoundsException.class, States::allTests,
                    full -> full.flaky(test));
        }
        bounds.refused("a forge without tests", IndexOutOfBoundsException.class, () -> States.of(1),
                each -> each.flaky(0));
    }

    private void flakiestOfSeveral() {
        bounds.sentence("Promise 18", "Returns the flakiest test; of several, the one with the lowest number.",
                "Returns the number of the test.");
        open(8);
        bounds.due("none is flaky", 0, forge::flakiest);
        results(7, ".F");
        bounds.due("the last one", 7, forge::flakiest);
        results(3, ".F");
        bounds.due("one between that is as flaky", 3, forge::flakiest);
        results(7, ".");
        bounds.due("the last one again", 7, forge::flakiest);
        results(0, "F.");
        bounds.due("the first one is as flaky", 0, forge::flakiest);
        results(7, "........");
        results(0, "........");
        bounds.due("none is flaky any more", 0, forge::flakiest);
    }

    private void flakiestOfNone() {
        bounds.sentence("Promise 18", "Throws `NoSuchElementException` if there are no tests");
        Class<? extends RuntimeException> missing = java.util.NoSuchElementException.class;
        bounds.refused("a new forge", missing, PackageForge::new, PackageForge::flakiest);
        bounds.refused("packages without tests", missing, States::allReleases, PackageForge::flakiest);
        forge = States.of(6);
        forge.addTest(5, 60);
        bounds.due("one test", 0, forge::flakiest);
    }
}
