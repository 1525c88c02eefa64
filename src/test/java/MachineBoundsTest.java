/** Boundary cases of promises 10 to 16, and what the terms say of tests and machines. */
final class MachineBoundsTest {
    private static final String RUNNING = "When a package is tested, all of its tests run, the longest ones first, of"
            + " several those with the lowest numbers, each one on the machine that is free first, of several the one"
            + " with the lowest number; its owner pays the sum of their lengths, from a budget, 0 at first.";

    private final Bounds bounds;
    private PackageForge forge;

    private MachineBoundsTest(Bounds bounds) {
        this.bounds = bounds;
    }

    static void run(Bounds bounds) {
        MachineBoundsTest test = new MachineBoundsTest(bounds);
        test.mostTests();
        test.testOfNoPackage();
        test.lengths();
        test.ninthTest();
        test.failingAtFirst();
        test.failingOfNoTest();
        test.machines();
        test.machinesOutOfRange();
        test.funds();
        test.fundsOutOfRange();
        test.budgets();
        test.budgetOfNoOwner();
        test.testTimes();
        test.testTimeOfNoPackage();
        test.longestFirst();
        test.ownerPays();
        test.failures();
        test.testingNoPackage();
        test.testingWithoutChoice();
        test.compilingNeeded();
        test.tooFewMinutes();
    }

    private void mostTests() {
        bounds.sentence("Terms", "At most 8 tests are numbered from 0; a test has a package, a length from 1 to 60"
                + " minutes, and fails or not, at first not.");
        bounds.alsoSentence("Promise 10", "Adds a test.", "Returns the number of the test.");
        forge = Forges.withPackages(6);
        for (int i = 0; i < 8; i++) {
            int number = i;
            bounds.due("test " + i + " is not there yet", IndexOutOfBoundsException.class, () -> forge.flaky(number));
            bounds.due("test " + i, number, () -> forge.addTest(number % 6, 60));
            bounds.due("at first not", false, () -> forge.setFailing(number, false));
        }
        bounds.due("no test 8", IndexOutOfBoundsException.class, () -> forge.flaky(8));
        bounds.due("two of package 0", 120, () -> forge.testTime(0));
        bounds.due("one of package 5", 60, () -> forge.testTime(5));
    }

    private void testOfNoPackage() {
        bounds.sentence("Promise 10", "`number`: the number of its package",
                "Throws `IndexOutOfBoundsException` if there is no such package");
        PackageForge busy = States.busy();
        bounds.due("the greatest number", 5, () -> busy.addTest(4, 1));
        bounds.due("the least number", 6, () -> busy.addTest(0, 1));
        for (int number : Bounds.outside(0, 4)) {
            bounds.refused("package " + number, IndexOutOfBoundsException.class, States::busy,
                    each -> each.addTest(number, 1));
        }
    }

    private void lengths() {
        bounds.sentence("Promise 10", "`length`: its length in minutes, 1 to 60",
                "Throws `IllegalArgumentException` if the length is out of range");
        forge = Forges.withPackages(2);
        bounds.due("1 minute", 0, () -> forge.addTest(0, 1));
        bounds.due("it takes 1 minute", 1, () -> forge.testTime(0));
        bounds.due("60 minutes", 1, () -> forge.addTest(1, 60));
        bounds.due("they are 60 minutes", 60, () -> forge.testTime(1));
        for (int length : Bounds.outside(1, 60)) {
            bounds.refused(length + " minutes", IllegalArgumentException.class, States::busy,
                    busy -> busy.addTest(0, length));
        }
    }

    private void ninthTest() {
        bounds.sentence("Promise 10", "Throws `IllegalStateException` if there are 8 tests");
        for (int i = 0; i < 5; i++) {
            int number = i;
            bounds.refused("a ninth one, of package " + i, IllegalStateException.class, States::allTests,
                    full -> full.addTest(number, 1));
        }
    }

    private void failingAtFirst() {
        bounds.sentence("Promise 11", "Tells whether a test fails when it runs.",
                "`isFailing`: whether it fails from now on", "Returns whether it did before.");
        forge = Forges.withPackages(1);
        forge.addTest(0, 1);
        forge.addTest(0, 1);
        forge.fund(0, 10);
        forge.compile(0);
        bounds.due("both do not", 0, () -> forge.test(0));
        bounds.due("at first not", false, () -> forge.setFailing(1, true));
        bounds.due("the other one neither", false, () -> forge.setFailing(0, false));
        bounds.due("from now on", 1, () -> forge.test(0));
        bounds.due("still", true, () -> forge.setFailing(1, true));
        bounds.due("it did", true, () -> forge.setFailing(1, false));
        bounds.due("no more", 0, () -> forge.test(0));
        bounds.due("it did not", false, () -> forge.setFailing(1, false));
    }

    private void failingOfNoTest() {
        bounds.sentence("Promise 11", "`test`: the number of the test",
                "Throws `IndexOutOfBoundsException` if there is no such test");
        PackageForge busy = States.busy();
        bounds.due("the greatest number", false, () -> busy.setFailing(4, false));
        bounds.due("the least number", false, () -> busy.setFailing(0, false));
        for (int test : Bounds.outside(0, 4)) {
            for (boolean isFailing : new boolean[] {false, true}) {
                bounds.refused("test " + test, IndexOutOfBoundsException.class, States::busy,
                        each -> each.setFailing(test, isFailing));
            }
        }
        bounds.refused("a forge without tests", IndexOutOfBoundsException.class, () -> States.of(1),
                each -> each.setFailing(0, true));
        bounds.refused("a ninth test", IndexOutOfBoundsException.class, States::allTests,
                each -> each.setFailing(8, true));
    }

    private void machines() {
        bounds.sentence("Terms", "There are 1 to 4 machines, at first 1.");
        bounds.alsoSentence("Promise 12", "Sets the number of machines.", "`machines`: the number of machines, 1 to 4",
                "Returns the number before.");
        forge = Forges.withPackages(1);
        for (int test = 0; test < 8; test++) {
            forge.addTest(0, 10);
        }
        bounds.due("at first 1", 80, () -> forge.testTime(0));
        bounds.due("1 before", 1, () -> forge.setMachines(4));
        bounds.due("four work", 20, () -> forge.testTime(0));
        bounds.due("4 before", 4, () -> forge.setMachines(1));
        bounds.due("one works", 80, () -> forge.testTime(0));
        bounds.due("1 before, again", 1, () -> forge.setMachines(3));
        bounds.due("three work", 30, () -> forge.testTime(0));
        bounds.due("3 before", 3, () -> forge.setMachines(2));
        bounds.due("two work", 40, () -> forge.testTime(0));
        bounds.due("2 before", 2, () -> forge.setMachines(2));
        bounds.due("and are the same", 2, () -> forge.setMachines(2));
    }

    private void machinesOutOfRange() {
        bounds.sentence("Promise 12", "Throws `IllegalArgumentException` if the number is out of range");
        for (int machines : Bounds.outside(1, 4)) {
            bounds.refused(machines + " machines", IllegalArgumentException.class, States::busy,
                    busy -> busy.setMachines(machines));
            bounds.refused(machines + " machines of a new forge", IllegalArgumentException.class, PackageForge::new,
                    each -> each.setMachines(machines));
        }
    }

    private void funds() {
        bounds.sentence("Promise 13", "Adds minutes to a budget.", "`owner`: the owner, 0 to 2",
                "`minutes`: the minutes, 1 to 9999", "Returns the budget.");
        forge = new PackageForge();
        for (int i = 0; i <= 2; i++) {
            int owner = i;
            bounds.due("1 minute for " + i, 1, () -> forge.fund(owner, 1));
            bounds.due("9999 more for " + i, 10000, () -> forge.fund(owner, 9999));
            bounds.due("9999 more again", 19999, () -> forge.fund(owner, 9999));
        }
    }

    private void fundsOutOfRange() {
        bounds.sentence("Promise 13", "Throws `IllegalArgumentException` if a number is out of range");
        for (int owner : Bounds.outside(0, 2)) {
            bounds.refused("owner " + owner, IllegalArgumentException.class, States::busy, busy -> busy.fund(owner, 5));
        }
        for (int minutes : Bounds.outside(1, 9999)) {
            for (int i = 0; i <= 2; i++) {
                int owner = i;
                bounds.refused(minutes + " minutes", IllegalArgumentException.class, States::busy,
                        busy -> busy.fund(owner, minutes));
            }
            bounds.refused(minutes + " minutes of no owner", IllegalArgumentException.class, States::busy,
                    busy -> busy.fund(3, minutes));
        }
    }

    private void budgets() {
        bounds.sentence("Promise 14", "Returns a budget.", "`owner`: the owner, 0 to 2", "Returns the minutes.");
        forge = new PackageForge();
        for (int i = 0; i <= 2; i++) {
            int owner = i;
            bounds.due("0 at first for " + i, 0, () -> forge.budget(owner));
            forge.fund(owner, 10 + owner);
            bounds.due("its own for " + i, 10 + owner, () -> forge.budget(owner));
        }
        bounds.due("the first one's is as it was", 10, () -> forge.budget(0));
    }

    private void budgetOfNoOwner() {
        bounds.sentence("Promise 14", "Throws `IllegalArgumentException` if there is no such owner");
        for (int owner : Bounds.outside(0, 2)) {
            bounds.refused("owner " + owner, IllegalArgumentException.class, States::busy, busy -> busy.budget(owner));
            bounds.refused("owner " + owner + " of a new forge", IllegalArgumentException.class, PackageForge::new,
                    each -> each.budget(owner));
        }
    }

    private void testTimes() {
        bounds.sentence("Promise 15", "Returns how long testing a package takes.",
                "Returns the minutes until the last one of its tests ends, 0 without tests.");
        forge = Forges.withPackages(6);
        for (int machines = 1; machines <= 4; machines++) {
            forge.setMachines(machines);
            bounds.due("0 without tests", 0, () -> forge.testTime(5));
        }
        forge.addTest(4, 60);
        bounds.due("0 without tests of its own", 0, () -> forge.testTime(5));
        forge.addTest(5, 1);
        bounds.due("the least", 1, () -> forge.testTime(5));
        for (int test = 2; test < 8; test++) {
            forge.addTest(4, 60);
        }
        forge.setMachines(1);
        bounds.due("seven of 60 one after the other", 420, () -> forge.testTime(4));
        forge.setMachines(4);
        bounds.due("seven of 60 on four machines", 120, () -> forge.testTime(4));
        bounds.due("asked again", 120, () -> forge.testTime(4));
    }

    private void testTimeOfNoPackage() {
        bounds.sentence("Promise 15", "`number`: the number of the package",
                "Throws `IndexOutOfBoundsException` if there is no such package");
        for (int number : Bounds.outside(0, 4)) {
            bounds.refused("package " + number, IndexOutOfBoundsException.class, States::busy,
                    busy -> busy.testTime(number));
        }
    }

    private void longestFirst() {
        bounds.sentence("Terms", RUNNING);
        takes("longest first: 4+1, 3+2; by numbers 1+3, 2+4", 5, 2, 1, 2, 3, 4);
        takes("on the machine that is free first: 5+2+2, 4+3", 9, 2, 2, 2, 3, 4, 5);
        takes("as long ones: 6+6, 6", 12, 2, 6, 6, 6);
        takes("both free first: 6+1, 6", 7, 2, 6, 6, 1);
        takes("59 goes after 60: 60, 59+2", 61, 2, 2, 59, 60);
        takes("three machines: 7+1+1, 6+2, 5+3", 9, 3, 1, 1, 2, 3, 5, 6, 7);
        takes("four machines: 10+1, 9+1, 8+2, 7+3", 11, 4, 1, 1, 2, 3, 7, 8, 9, 10);
    }

    private void takes(String what, int due, int machines, int... lengths) {
        forge = Forges.withPackages(1);
        for (int length : lengths) {
            forge.addTest(0, length);
        }
        forge.setMachines(machines);
        bounds.due(what, due, () -> forge.testTime(0));
    }

    private void ownerPays() {
        bounds.sentence("Terms", RUNNING);
        forge = Forges.withPackages(3);
        for (int owner = 0; owner < 3; owner++) {
            forge.fund(owner, 500);
        }
        for (int test = 0; test < 8; test++) {
            forge.addTest(2, 60);
        }
        forge.setMachines(4);
        forge.compile(2);
        forge.test(2);
        bounds.due("the sum of their lengths", 20, () -> forge.budget(2));
        bounds.due("not the others", 1000, () -> forge.budget(0) + forge.budget(1));
        forge.compile(0);
        forge.test(0);
        bounds.due("0 without tests", 500, () -> forge.budget(0));
        bounds.due("0 at first", 0, () -> new PackageForge().budget(0));
    }

    private void failures() {
        bounds.sentence("Promise 16", "Tests a package.", "Returns the number of tests that fail.");
        bounds.alsoSentence("Terms", "A package passes if none of its tests fails.");
        forge = Forges.withPackages(2);
        forge.compile(0);
        bounds.due("without tests", 0, () -> forge.test(0));
        bounds.due("it passes", true, () -> forge.canPublish(0));
        forge.fund(0, 9999);
        for (int test = 0; test < 8; test++) {
            forge.addTest(test == 7 ? 1 : 0, 1);
        }
        bounds.due("none of seven", 0, () -> forge.test(0));
        forge.setFailing(7, true);
        bounds.due("none of its own", 0, () -> forge.test(0));
        bounds.due("it passes, too", true, () -> forge.canPublish(0));
        for (int i = 0; i < 7; i++) {
            int test = i;
            forge.setFailing(test, true);
            bounds.due("up to test " + i, test + 1, () -> forge.test(0));
            bounds.due("it does not pass", false, () -> forge.canPublish(0));
        }
        for (int test = 0; test < 6; test++) {
            forge.setFailing(test, false);
        }
        bounds.due("only the last one", 1, () -> forge.test(0));
        bounds.due("one is enough", false, () -> forge.canPublish(0));
    }

    private void testingNoPackage() {
        bounds.sentence("Promise 16", "`number`: the number of the package",
                "Throws `IndexOutOfBoundsException` if there is no such package");
        for (int number : Bounds.outside(0, 4)) {
            bounds.refused("package " + number, IndexOutOfBoundsException.class, States::busy,
                    busy -> busy.test(number));
        }
    }

    private void testingWithoutChoice() {
        bounds.sentence("Promise 16", "Throws `UnsupportedOperationException` if there is no choice");
        bounds.refused("a needed one has no release", UnsupportedOperationException.class, States::busy,
                busy -> busy.test(4));
        bounds.refused("it passed before, and its owner can pay", UnsupportedOperationException.class,
                MachineBoundsTest::withoutReleases, each -> each.test(1));
    }

    /** No release of 0 is left. */
    private static PackageForge withoutReleases() {
        PackageForge busy = States.busy();
        busy.yank(0, 100);
        busy.yank(0, 200);
        return busy;
    }

    private void compilingNeeded() {
        bounds.sentence("Promise 16", "Throws `IllegalStateException` if compiling it would be needed, or its owner has"
                + " fewer minutes than the sum of the lengths");
        Class<? extends RuntimeException> refusal = IllegalStateException.class;
        bounds.refused("not compiled before", refusal, () -> States.of(1), each -> each.test(0));
        bounds.refused("another body", refusal, () -> changed(1, 3), each -> each.test(0));
        bounds.refused("another interface", refusal, () -> changed(2, 2), each -> each.test(0));
        bounds.refused("a need less", refusal, MachineBoundsTest::withDroppedNeed, each -> each.test(2));
        bounds.refused("a needed one's other interface", refusal, MachineBoundsTest::withOtherRange,
                each -> each.test(1));
        PackageForge back = changed(1, 3);
        back.setSource(0, 1, 2);
        bounds.due("compiled as it is", 1, () -> back.test(0));
    }

    private static PackageForge changed(int face, int body) {
        PackageForge busy = States.busy();
        busy.setSource(0, face, body);
        return busy;
    }

    private static PackageForge withDroppedNeed() {
        PackageForge busy = States.busy();
        busy.dropNeed(2, 0);
        return busy;
    }

    /** 0 at 200 has another interface than 0 at 100. */
    private static PackageForge withOtherRange() {
        PackageForge busy = States.busy();
        busy.need(1, 0, 100, 999);
        return busy;
    }

    private void tooFewMinutes() {
        bounds.sentence("Promise 16", "Throws `IllegalStateException` if compiling it would be needed, or its owner has"
                + " fewer minutes than the sum of the lengths");
        Class<? extends RuntimeException> refusal = IllegalStateException.class;
        bounds.refused("0 of 1 minute", refusal, () -> withTests(0, 1), each -> each.test(0));
        bounds.refused("479 of 480", refusal, () -> withTests(479, 60, 60, 60, 60, 60, 60, 60, 60),
                each -> each.test(0));
        bounds.refused("as many as the longest one has", refusal, () -> withTests(60, 60, 1), each -> each.test(0));
        bounds.refused("as many as the time that it takes", refusal, () -> withTests(7, 7, 7, 7, 7),
                each -> each.test(0));
        bounds.refused("others have more", refusal, MachineBoundsTest::withRichOthers, each -> each.test(0));
        PackageForge just = withTests(480, 60, 60, 60, 60, 60, 60, 60, 60);
        bounds.due("480 of 480", 0, () -> just.test(0));
        bounds.due("all is paid", 0, () -> just.budget(0));
        bounds.due("not a second time", refusal, () -> just.test(0));
        bounds.due("0 of 0", 0, () -> withTests(0).test(0));
    }

    /** A compiled package with tests of these lengths on four machines, and what its owner has. */
    private static PackageForge withTests(int budget, int... lengths) {
        PackageForge forge = States.of(1);
        for (int length : lengths) {
            forge.addTest(0, length);
        }
        if (budget > 0) {
            forge.fund(0, budget);
        }
        forge.setMachines(4);
        forge.compile(0);
        return forge;
    }

    private static PackageForge withRichOthers() {
        PackageForge forge = withTests(9, 10);
        forge.fund(1, 9999);
        forge.fund(2, 9999);
        return forge;
    }
}
