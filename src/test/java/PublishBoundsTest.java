/** Boundary cases of promises 19 to 21, and what the terms say of releases and publishing. */
final class PublishBoundsTest {
    private static final String CAN = "A source can be published if the package passed when it was tested last, its"
            + " interface, its body and its needs with their ranges are as they were then, and the choice for it is"
            + " the same as then.";
    private static final String REFUSED = "Throws `UnsupportedOperationException` if it cannot be published, or the"
            + " version would be greater than 999";
    private static final Class<? extends RuntimeException> UNSUPPORTED = UnsupportedOperationException.class;

    private final Bounds bounds;
    private PackageForge forge;

    private PublishBoundsTest(Bounds bounds) {
        this.bounds = bounds;
    }

    static void run(Bounds bounds) {
        PublishBoundsTest test = new PublishBoundsTest(bounds);
        test.testedLast();
        test.sourceAsThen();
        test.rangesAsThen();
        test.choiceAsThen();
        test.ofNoPackage();
        test.firstVersion();
        test.nextVersions();
        test.versionsBeyond999();
        test.whatAReleaseHas();
        test.mostReleases();
        test.releaseTwentyOne();
        test.notPublishable();
        test.versionTooGreat();
        test.lock();
    }

    private void can(String what, boolean due, int number) {
        bounds.due(what, due, () -> forge.canPublish(number));
    }

    private void testedLast() {
        bounds.sentence("Terms", CAN);
        bounds.alsoSentence("Promise 19", "Returns whether the source of a package can be published.",
                "Returns whether it can.");
        forge = Forges.withPackages(2);
        can("not compiled", false, 0);
        forge.compile(0);
        can("not tested", false, 0);
        forge.test(0);
        can("passed without tests", true, 0);
        can("the other package was not tested", false, 1);
        forge.addTest(0, 60);
        forge.setFailing(0, true);
        can("the new test has not run", true, 0);
        bounds.due("no minutes", IllegalStateException.class, () -> forge.test(0));
        can("a refused test does not count", true, 0);
        forge.fund(0, 200);
        forge.test(0);
        can("failed", false, 0);
        forge.setFailing(0, false);
        can("would not fail now", false, 0);
        forge.test(0);
        can("passed again", true, 0);
        bounds.due("published", 100, () -> forge.publish(0));
        can("once more", true, 0);
    }

    private void sourceAsThen() {
        bounds.sentence("Terms", CAN);
        forge = Forges.withPackages(1);
        forge.setSource(0, 999, 0);
        forge.compile(0);
        forge.test(0);
        for (int[] other : new int[][] {{998, 0}, {999, 1}, {0, 0}, {999, 999}, {0, 999}}) {
            forge.setSource(0, other[0], other[1]);
            can("another source", false, 0);
            forge.compile(0);
            can("compiled, but not tested", false, 0);
            forge.setSource(0, 999, 0);
            can("as it was then", true, 0);
        }
    }

    private void rangesAsThen() {
        bounds.sentence("Terms", CAN);
        forge = Forges.withThreeReleases(3);
        Forges.release(forge, 1);
        forge.need(2, 0, 101, 300);
        forge.compile(2);
        forge.test(2);
        for (int[] other : new int[][] {{100, 300}, {102, 300}, {101, 299}, {101, 301}, {200, 200}}) {
            forge.need(2, 0, other[0], other[1]);
            bounds.due("the choice is the same", 200, () -> forge.chosen(2, 0));
            can(other[0] + " to " + other[1], false, 2);
        }
        forge.need(2, 0, 101, 300);
        can("as it was then", true, 2);
        forge.need(2, 1, 101, 300);
        can("a need more, and no choice", false, 2);
        forge.need(2, 1, 100, 100);
        can("a need more, and a choice", false, 2);
        forge.dropNeed(2, 1);
        can("as it was then, again", true, 2);
        forge.dropNeed(2, 0);
        can("a need less", false, 2);
    }

    private void choiceAsThen() {
        bounds.sentence("Terms", CAN);
        forge = Forges.withPackages(3);
        Forges.release(forge, 0);
        forge.need(1, 0, 100, 999);
        Forges.release(forge, 1);
        forge.need(2, 1, 100, 999);
        forge.compile(2);
        forge.test(2);
        can("as it was then", true, 2);
        forge.publish(0);
        can("a reached one has another version", false, 2);
        forge.yank(0, 101);
        can("the same choice again", true, 2);
        forge.need(1, 0, 100, 100);
        can("the source of a needed one does not count", true, 2);
        forge.dropNeed(1, 0);
        Forges.release(forge, 1);
        can("another version needs none", false, 2);
        forge.test(2);
        can("tested with it", true, 2);
        forge.yank(1, 101);
        can("one more is reached", false, 2);
        forge.yank(1, 100);
        can("no choice", false, 2);
    }

    private void ofNoPackage() {
        String number = "`number`: the number of the package";
        String refusal = "Throws `IndexOutOfBoundsException` if there is no such package";
        for (int none : Bounds.outside(0, 4)) {
            bounds.sentence("Promise 19", number, refusal);
            bounds.refused("package " + none, IndexOutOfBoundsException.class, States::busy,
                    busy -> busy.canPublish(none));
            bounds.sentence("Promise 20", number, refusal);
            bounds.refused("package " + none, IndexOutOfBoundsException.class, States::busy,
                    busy -> busy.nextVersion(none));
            bounds.sentence("Promise 21", number, refusal);
            bounds.refused("package " + none, IndexOutOfBoundsException.class, States::busy,
                    busy -> busy.publish(none));
        }
    }

    private void firstVersion() {
        bounds.sentence("Terms", "The first release of a package has the version 100.");
        forge = Forges.withPackages(6);
        for (int i = 0; i < 6; i++) {
            int number = i;
            forge.setSource(number, 999 - number, 999);
            bounds.due("the next one of " + i, 100, () -> forge.nextVersion(number));
            bounds.due("the first one of " + i, 100, () -> Forges.release(forge, number));
        }
    }

    private void nextVersions() {
        bounds.sentence("Terms", "The next one has the version 1 greater than the last one, or, if the interface"
                + " differs from that of the last one, or 1 greater would be a multiple of 100, the next greater"
                + " multiple of 100.");
        bounds.alsoSentence("Promise 21", "Publishes the source of a package.", "Returns the version.");
        forge = Forges.withPackages(1);
        int[][] rows = {{0, 0, 100}, {0, 0, 101}, {0, 999, 102}, {1, 999, 200}, {0, 999, 300}, {0, 0, 301},
                {999, 0, 400}, {998, 0, 500}, {998, 1, 501}, {998, 1, 502}, {998, 2, 503}, {0, 2, 600}};
        for (int[] row : rows) {
            forge.setSource(0, row[0], row[1]);
            bounds.due("ahead of it", row[2], () -> forge.nextVersion(0));
            bounds.due("published", row[2], () -> Forges.release(forge, 0));
        }
        forge.yank(0, 600);
        bounds.due("the last one, though it is yanked", 601, () -> forge.nextVersion(0));
        forge.setSource(0, 998, 2);
        bounds.due("the interface of one before the last", 700, () -> forge.nextVersion(0));
    }

    private void versionsBeyond999() {
        bounds.sentence("Promise 20", "Returns the version that the next release of a package would have.",
                "Returns the version, also beyond 999.");
        forge = States.beyond999();
        bounds.due("after 900", 1000, () -> forge.nextVersion(0));
        bounds.due("still", 1000, () -> forge.nextVersion(0));
        forge.setSource(0, 2, 2);
        bounds.due("with the interface of 900", 901, () -> Forges.release(forge, 0));
        bounds.due("after 901", 902, () -> forge.nextVersion(0));
        forge.setSource(0, 3, 2);
        bounds.due("with another interface", 1000, () -> forge.nextVersion(0));
        bounds.due("a package without releases", 100, () -> forge.nextVersion(1));
    }

    private void whatAReleaseHas() {
        bounds.sentence("Terms", "A release of a package has a version, the interface and the needs of the source from"
                + " which it was made, and a lock.");
        forge = Forges.withThreeReleases(3);
        forge.need(1, 0, 100, 101);
        Forges.releaseWithFace(forge, 1, 5);
        forge.need(1, 0, 200, 200);
        forge.setSource(1, 6, 6);
        forge.need(2, 1, 100, 100);
        bounds.due("the needs of then", 101, () -> forge.chosen(2, 0));
        bounds.due("the lock of then", 101, () -> forge.locked(1, 100, 0));
        forge.compile(2);
        bounds.due("the interface of then", 200, () -> forge.nextVersion(1));
        forge.setSource(1, 5, 6);
        Forges.release(forge, 1);
        forge.need(2, 1, 100, 101);
        bounds.due("101 is chosen", 101, () -> forge.chosen(2, 1));
        bounds.due("its interface is that of 100", false, () -> forge.compile(2));
        bounds.due("the old lock stands", 101, () -> forge.locked(1, 100, 0));
        bounds.due("the new one has its own", 200, () -> forge.locked(1, 101, 0));
    }

    private void mostReleases() {
        bounds.sentence("Terms", "At most 20 releases are made in all.");
        forge = States.allReleasesButOne();
        bounds.due("the twentieth", 110, () -> forge.publish(1));
        bounds.due("is there", false, () -> forge.isStale(1, 110));
        forge = Forges.withPackages(1);
        for (int i = 0; i < 20; i++) {
            int version = 100 + i;
            bounds.due("all of one package", version, () -> Forges.release(forge, 0));
        }
        bounds.due("one too many", IllegalStateException.class, () -> forge.publish(0));
        bounds.due("its version", 120, () -> forge.nextVersion(0));
        bounds.due("it is not there", java.util.NoSuchElementException.class, () -> forge.isStale(0, 120));
    }

    private void releaseTwentyOne() {
        bounds.sentence("Promise 21", "Throws `IllegalStateException` if there are 20 releases");
        for (int i = 0; i < 2; i++) {
            int number = i;
            bounds.refused("of package " + i, IllegalStateException.class, States::allReleases,
                    full -> full.publish(number));
            bounds.refused("yanked ones count, package " + i, IllegalStateException.class,
                    PublishBoundsTest::fullWithYanked, full -> full.publish(number));
        }
        bounds.refused("the first one of a package", IllegalStateException.class, PublishBoundsTest::fullWithFirst,
                full -> full.publish(2));
    }

    private static PackageForge fullWithYanked() {
        PackageForge full = States.allReleases();
        full.yank(0, 100);
        full.yank(1, 100);
        full.yank(1, 110);
        return full;
    }

    private static PackageForge fullWithFirst() {
        PackageForge full = States.allReleases();
        full.compile(2);
        full.test(2);
        return full;
    }

    private void notPublishable() {
        bounds.sentence("Promise 21", REFUSED);
        bounds.alsoSentence("Terms", "What is published compiled, and passed its tests on the versions that it names.");
        bounds.refused("not compiled", UNSUPPORTED, () -> States.of(1), each -> each.publish(0));
        bounds.refused("not tested", UNSUPPORTED, PublishBoundsTest::compiledOnly, each -> each.publish(0));
        bounds.refused("failed", UNSUPPORTED, PublishBoundsTest::failed, each -> each.publish(0));
        bounds.refused("another body", UNSUPPORTED, () -> changed(1, 3), each -> each.publish(0));
        bounds.refused("another interface", UNSUPPORTED, () -> changed(2, 2), each -> each.publish(0));
        bounds.refused("another range", UNSUPPORTED, () -> ranged(100, 198), each -> each.publish(1));
        bounds.refused("another choice", UNSUPPORTED, () -> ranged(100, 999), each -> each.publish(1));
        bounds.refused("no choice", UNSUPPORTED, States::busy, each -> each.publish(4));
        bounds.refused("no choice any more", UNSUPPORTED, PublishBoundsTest::withoutReleases,
                each -> each.publish(1));
    }

    private static PackageForge compiledOnly() {
        PackageForge each = States.of(1);
        each.compile(0);
        return each;
    }

    private static PackageForge failed() {
        PackageForge busy = States.busy();
        busy.test(0);
        return busy;
    }

    private static PackageForge changed(int face, int body) {
        PackageForge busy = States.busy();
        busy.setSource(0, face, body);
        return busy;
    }

    private static PackageForge ranged(int least, int greatest) {
        PackageForge busy = States.busy();
        busy.need(1, 0, least, greatest);
        return busy;
    }

    private static PackageForge withoutReleases() {
        PackageForge busy = States.busy();
        busy.yank(0, 100);
        return busy;
    }

    private void versionTooGreat() {
        bounds.sentence("Promise 21", REFUSED);
        bounds.due("it can be published but for that", true, () -> States.beyond999().canPublish(0));
        bounds.refused("1000 after 900", UNSUPPORTED, States::beyond999, each -> each.publish(0));
        bounds.refused("1000 after 901", UNSUPPORTED, PublishBoundsTest::beyond999After901,
                each -> each.publish(0));
        PackageForge other = States.beyond999();
        bounds.due("another package's first one", 100, () -> Forges.release(other, 1));
    }

    private static PackageForge beyond999After901() {
        PackageForge each = States.beyond999();
        each.setSource(0, 2, 2);
        Forges.release(each, 0);
        each.setSource(0, 1, 2);
        each.compile(0);
        each.test(0);
        return each;
    }

    private void lock() {
        bounds.sentence("Terms", "The release has this choice as its lock.");
        forge = Forges.withThreeReleases(6);
        for (int number = 1; number < 5; number++) {
            forge.need(number, number - 1, 100, 999);
            Forges.release(forge, number);
        }
        forge.need(5, 4, 100, 999);
        forge.need(5, 0, 101, 999);
        bounds.due("published", 100, () -> Forges.release(forge, 5));
        for (int other = 0; other < 5; other++) {
            int which = other;
            bounds.due("the choice's " + other, other == 0 ? 200 : 100, () -> forge.locked(5, 100, which));
        }
        forge.dropNeed(5, 4);
        bounds.due("with another choice", 101, () -> Forges.release(forge, 5));
        bounds.due("it is not reached", 0, () -> forge.locked(5, 101, 4));
        bounds.due("the first one's stands", 100, () -> forge.locked(5, 100, 4));
    }
}
