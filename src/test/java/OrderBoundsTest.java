import java.util.NoSuchElementException;
import java.util.function.Supplier;

/** Where several exceptions apply, the one that is documented first is thrown; and nothing changes. */
final class OrderBoundsTest {
    private static final Class<? extends RuntimeException> INDEX = IndexOutOfBoundsException.class;
    private static final Class<? extends RuntimeException> ARGUMENT = IllegalArgumentException.class;
    private static final Class<? extends RuntimeException> STATE = IllegalStateException.class;
    private static final Class<? extends RuntimeException> MISSING = NoSuchElementException.class;
    private static final Class<? extends RuntimeException> UNSUPPORTED = UnsupportedOperationException.class;

    private final Bounds bounds;

    private OrderBoundsTest(Bounds bounds) {
        this.bounds = bounds;
    }

    static void run(Bounds bounds) {
        bounds.sentence("Terms", "A method that throws an exception changes nothing.",
                "If several exceptions apply, the one that is documented first is thrown.");
        OrderBoundsTest test = new OrderBoundsTest(bounds);
        test.packages();
        test.choices();
        test.tests();
        test.testing();
        test.publishing();
        test.releases();
    }

    private void first(String what, Class<? extends RuntimeException> due, Supplier<PackageForge> state,
            Bounds.On call) {
        bounds.refused(what, due, state, call);
    }

    private void packages() {
        first("addPackage: owner 3, 6 packages", ARGUMENT, States::allPackages, f -> f.addPackage(3));
        first("addPackage: owner -1, 6 packages", ARGUMENT, States::allPackages, f -> f.addPackage(-1));
        first("setSource: no package, interface 1000", INDEX, States::busy, f -> f.setSource(5, 1000, 0));
        first("setSource: no package, body -1", INDEX, States::busy, f -> f.setSource(-1, 0, -1));
        first("need: no package, least 99", INDEX, States::busy, f -> f.need(5, 0, 99, 999));
        first("need: no other package, greatest 1000", INDEX, States::busy, f -> f.need(2, -1, 100, 1000));
        first("need: no other package, which is not lower", INDEX, States::busy, f -> f.need(2, 5, 100, 999));
        first("need: no package, the other one is not lower", INDEX, States::busy, f -> f.need(-1, 0, 100, 999));
        first("need: neither is there, nor lower", INDEX, States::busy, f -> f.need(5, 5, 0, 0));
        first("dropNeed: no package, which needs none", INDEX, States::busy, f -> f.dropNeed(5, 4));
        first("dropNeed: no other package, which is not needed", INDEX, States::busy, f -> f.dropNeed(2, 5));
        first("dropNeed: no lower package, which is not needed", INDEX, States::busy, f -> f.dropNeed(0, -1));
    }

    private void choices() {
        first("chosen: no other package, no choice", INDEX, States::busy, f -> f.chosen(4, 5));
        first("chosen: no lower package, no choice", INDEX, States::busy, f -> f.chosen(4, -1));
        first("chosenByAll: no other package, no choice", INDEX, States::busy, f -> f.chosenByAll(4, 5));
        first("chosenByAll: no lower package, no choice", INDEX, States::busy, f -> f.chosenByAll(4, -1));
        first("compile: no package, no choice", INDEX, States::busy, f -> f.compile(5));
    }

    private void tests() {
        first("addTest: no package, length 0", INDEX, States::busy, f -> f.addTest(5, 0));
        first("addTest: no package, 8 tests", INDEX, States::allTests, f -> f.addTest(-1, 1));
        first("addTest: no package, length 61, 8 tests", INDEX, States::allTests, f -> f.addTest(5, 61));
        first("addTest: length 61, 8 tests", ARGUMENT, States::allTests, f -> f.addTest(0, 61));
        first("addTest: length 0, 8 tests", ARGUMENT, States::allTests, f -> f.addTest(0, 0));
        first("fund: no owner, no minutes", ARGUMENT, States::busy, f -> f.fund(3, 0));
    }

    private void testing() {
        first("test: no choice, not compiled", UNSUPPORTED, States::busy, f -> f.test(4));
        first("test: no choice, compiling needed, no minutes", UNSUPPORTED, OrderBoundsTest::withoutChoice,
                f -> f.test(1));
        first("test: compiling needed, no minutes", STATE, OrderBoundsTest::withoutMinutes, f -> f.test(0));
        first("test: no package, in a forge without any", INDEX, PackageForge::new, f -> f.test(0));
    }

    private static PackageForge withoutChoice() {
        PackageForge forge = States.of(2);
        forge.addTest(1, 10);
        forge.need(1, 0, 100, 999);
        return forge;
    }

    private static PackageForge withoutMinutes() {
        PackageForge forge = States.of(1);
        forge.addTest(0, 10);
        return forge;
    }

    private void publishing() {
        first("publish: untested, 20 releases", UNSUPPORTED, States::allReleases, f -> f.publish(2));
        first("publish: another source, 20 releases", UNSUPPORTED, OrderBoundsTest::fullAndChanged,
                f -> f.publish(1));
        first("publish: no choice, 20 releases", UNSUPPORTED, OrderBoundsTest::fullWithoutChoice,
                f -> f.publish(2));
        first("publish: version 1000, 20 releases", UNSUPPORTED, OrderBoundsTest::fullBeyond999,
                f -> f.publish(0));
        first("publish: no package, 20 releases", INDEX, States::allReleases, f -> f.publish(3));
    }

    private static PackageForge fullAndChanged() {
        PackageForge forge = States.allReleases();
        forge.setSource(1, 2, 4);
        return forge;
    }

    private static PackageForge fullWithoutChoice() {
        PackageForge forge = States.allReleases();
        forge.need(2, 0, 902, 999);
        return forge;
    }

    private static PackageForge fullBeyond999() {
        PackageForge forge = States.allReleases();
        forge.setSource(0, 2, 2);
        forge.compile(0);
        forge.test(0);
        return forge;
    }

    private void releases() {
        first("yank: no package, no release", INDEX, States::busy, f -> f.yank(5, 999));
        first("isStale: no package, no release", INDEX, States::busy, f -> f.isStale(-1, 0));
        first("relock: no package, no release", INDEX, States::busy, f -> f.relock(5, 0));
        first("relock: yanked, no choice", STATE, OrderBoundsTest::yankedWithoutChoice, f -> f.relock(1, 100));
        first("locked: no package, no release", INDEX, States::busy, f -> f.locked(5, 0, 0));
        first("locked: no other package, no release", INDEX, States::busy, f -> f.locked(2, 999, 5));
        first("locked: no lower package, no release", INDEX, States::busy, f -> f.locked(3, 100, -1));
        first("locked: no release, and the other one is itself", MISSING, States::busy, f -> f.locked(3, 100, 3));
    }

    private static PackageForge yankedWithoutChoice() {
        PackageForge forge = States.busy();
        forge.yank(0, 100);
        forge.yank(1, 100);
        return forge;
    }
}
