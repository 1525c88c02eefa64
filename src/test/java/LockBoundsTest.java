import java.util.NoSuchElementException;

/** Boundary cases of promises 22 to 25, and what the terms say of yanking. */
final class LockBoundsTest {
    private static final String NO_PACKAGE = "Throws `IndexOutOfBoundsException` if there is no such package";
    private static final String NO_RELEASE = "Throws `NoSuchElementException` if it has no such release";
    private static final String NUMBER = "`number`: the number of the package";
    private static final String VERSION = "`version`: the version";

    private final Bounds bounds;
    private PackageForge forge;

    private LockBoundsTest(Bounds bounds) {
        this.bounds = bounds;
    }

    private interface OfRelease {
        Object ask(PackageForge forge, int number, int version);
    }

    static void run(Bounds bounds) {
        LockBoundsTest test = new LockBoundsTest(bounds);
        test.yankOnce();
        test.staleThen();
        test.yankedAlready();
        test.staleOrNot();
        test.staleUnlessYanked();
        test.lockedAnew();
        test.changesOfNone();
        test.changesOfAll();
        test.comeAndGo();
        test.relockOfYanked();
        test.relockWithoutChoice();
        test.versionsInLocks();
        test.lockOfNoPackage();
        test.lockOfNoRelease();
        test.ofNoPackage("Promise 22", PackageForge::yank);
        test.ofNoPackage("Promise 23", PackageForge::isStale);
        test.ofNoPackage("Promise 24", PackageForge::relock);
        test.ofNoRelease("Promise 22", PackageForge::yank);
        test.ofNoRelease("Promise 23", PackageForge::isStale);
        test.ofNoRelease("Promise 24", PackageForge::relock);
    }

    /** 1 to 5 at 100 have locked all that is below them; 0 has 100, 101 and 200, which is locked. */
    private static PackageForge chain() {
        PackageForge forge = Forges.withThreeReleases(6);
        for (int number = 1; number < 6; number++) {
            forge.need(number, number - 1, 100, 999);
            Forges.release(forge, number);
        }
        return forge;
    }

    private void yankOnce() {
        bounds.sentence("Terms", "It can be yanked.");
        bounds.alsoSentence("Promise 22", "Yanks a release.");
        forge = Forges.withPackages(2);
        forge.need(1, 0, 100, 999);
        Forges.release(forge, 0);
        bounds.due("it can be chosen", 100, () -> forge.chosen(1, 0));
        bounds.due("the only release", 0, () -> forge.yank(0, 100));
        bounds.due("it cannot be chosen", UnsupportedOperationException.class, () -> forge.chosen(1, 0));
        bounds.due("it is still there", false, () -> forge.isStale(0, 100));
        bounds.due("it counts", 0f, forge::goodShare);
        bounds.due("it is the last one", 101, () -> forge.nextVersion(0));
    }

    private void staleThen() {
        bounds.sentence("Promise 22", "Returns the number of releases that are stale then.");
        forge = chain();
        bounds.due("in no lock", 0, () -> forge.yank(0, 100));
        bounds.due("in no lock either", 0, () -> forge.yank(0, 101));
        bounds.due("in all five", 5, () -> forge.yank(0, 200));
        bounds.due("one of these", 4, () -> forge.yank(3, 100));
        bounds.due("one that is above it", 3, () -> forge.yank(5, 100));
        bounds.due("one that is below it", 2, () -> forge.yank(1, 100));
        bounds.due("the last but one", 1, () -> forge.yank(2, 100));
        bounds.due("the last one", 0, () -> forge.yank(4, 100));
    }

    private void yankedAlready() {
        bounds.sentence("Promise 22", "Throws `IllegalStateException` if the release is yanked");
        bounds.refused("yanked before", IllegalStateException.class, States::busy, busy -> busy.yank(0, 101));
        bounds.refused("yanked while it was stale", IllegalStateException.class, LockBoundsTest::staleAndYanked,
                busy -> busy.yank(2, 100));
        bounds.due("the one below it is not", 2, () -> States.busy().yank(0, 100));
    }

    private static PackageForge staleAndYanked() {
        PackageForge busy = States.busy();
        busy.yank(2, 100);
        return busy;
    }

    private void staleOrNot() {
        bounds.sentence("Terms", "A release that is not yanked is stale if its lock has a yanked release.");
        bounds.alsoSentence("Promise 23", "Returns whether a release is stale.");
        forge = chain();
        for (int i = 0; i < 6; i++) {
            int number = i;
            bounds.due("nothing is yanked, " + i, false, () -> forge.isStale(number, 100));
        }
        forge.yank(2, 100);
        for (int i = 0; i < 6; i++) {
            int number = i;
            bounds.due("2 is in the locks of 3 to 5, " + i, number > 2, () -> forge.isStale(number, 100));
        }
        forge.dropNeed(5, 4);
        Forges.release(forge, 5);
        bounds.due("an empty lock", false, () -> forge.isStale(5, 101));
        bounds.due("the source's needs do not count", true, () -> forge.isStale(5, 100));
    }

    private void staleUnlessYanked() {
        bounds.sentence("Promise 23", "Returns whether it is, false if it is yanked.");
        forge = chain();
        forge.yank(0, 200);
        bounds.due("stale", true, () -> forge.isStale(5, 100));
        forge.yank(5, 100);
        bounds.due("stale and yanked", false, () -> forge.isStale(5, 100));
        bounds.due("yanked, with an empty lock", false, () -> forge.isStale(0, 200));
        bounds.due("stale, and another one is yanked", true, () -> forge.isStale(4, 100));
    }

    private void lockedAnew() {
        bounds.sentence("Terms", "It can be locked anew: to the choice for its needs, as for a source.");
        bounds.alsoSentence("Promise 24", "Locks a release anew, whether it is stale or not.");
        forge = chain();
        forge.yank(0, 200);
        bounds.due("stale", 1, () -> forge.relock(1, 100));
        bounds.due("it has the next one", 101, () -> forge.locked(1, 100, 0));
        bounds.due("no more", false, () -> forge.isStale(1, 100));
        bounds.due("the one above it is", true, () -> forge.isStale(2, 100));
        forge.publish(0);
        bounds.due("not stale", 1, () -> forge.relock(1, 100));
        bounds.due("it has the new one", 201, () -> forge.locked(1, 100, 0));
        forge.need(1, 0, 100, 100);
        bounds.due("the source's needs do not count", 0, () -> forge.relock(1, 100));
        bounds.due("its own ones do", 201, () -> forge.locked(1, 100, 0));
        bounds.due("with the needs of the chosen ones", 1, () -> forge.relock(5, 100));
        bounds.due("reached over four", 201, () -> forge.locked(5, 100, 0));
    }

    private static final String CHANGES = "Returns the number of packages whose versions in the lock change, those that"
            + " come or go included.";

    private void changesOfNone() {
        bounds.sentence("Promise 24", CHANGES);
        forge = chain();
        for (int i = 0; i < 6; i++) {
            int number = i;
            bounds.due("the same lock, " + i, 0, () -> forge.relock(number, 100));
        }
        bounds.due("an empty lock", 0, () -> forge.relock(0, 200));
    }

    private void changesOfAll() {
        bounds.sentence("Promise 24", CHANGES);
        forge = chain();
        for (int number = 0; number < 5; number++) {
            Forges.release(forge, number);
        }
        bounds.due("all five change", 5, () -> forge.relock(5, 100));
        for (int i = 0; i < 5; i++) {
            int other = i;
            bounds.due("to the new one of " + i, other == 0 ? 201 : 101, () -> forge.locked(5, 100, other));
        }
        bounds.due("and none the second time", 0, () -> forge.relock(5, 100));
    }

    private void comeAndGo() {
        bounds.sentence("Promise 24", CHANGES);
        forge = chain();
        forge.dropNeed(3, 2);
        Forges.release(forge, 3);
        bounds.due("3 changes; 0, 1 and 2 go", 4, () -> forge.relock(5, 100));
        bounds.due("gone", 0, () -> forge.locked(5, 100, 2));
        bounds.due("changed", 101, () -> forge.locked(5, 100, 3));
        bounds.due("as before", 100, () -> forge.locked(5, 100, 4));
        forge.yank(3, 101);
        forge.yank(1, 100);
        forge.dropNeed(2, 1);
        Forges.release(forge, 2);
        bounds.due("3 changes, 2 comes", 2, () -> forge.relock(5, 100));
        bounds.due("come with the new version", 101, () -> forge.locked(5, 100, 2));
        bounds.due("not come again", 0, () -> forge.locked(5, 100, 0));
    }

    private void relockOfYanked() {
        bounds.sentence("Promise 24", "Throws `IllegalStateException` if the release is yanked");
        bounds.refused("with an empty lock", IllegalStateException.class, States::busy, busy -> busy.relock(0, 101));
        bounds.refused("yanked while it was stale", IllegalStateException.class, LockBoundsTest::staleAndYanked,
                busy -> busy.relock(2, 100));
    }

    private void relockWithoutChoice() {
        bounds.sentence("Promise 24", "Throws `UnsupportedOperationException` if there is no choice for its needs");
        Class<? extends RuntimeException> none = UnsupportedOperationException.class;
        bounds.refused("stale, and none is in the range", none, LockBoundsTest::withoutReleases,
                busy -> busy.relock(1, 100));
        bounds.refused("none for what it needs", none, LockBoundsTest::withoutReleases, busy -> busy.relock(2, 100));
        PackageForge left = withoutReleases();
        bounds.due("one without needs", 0, () -> left.relock(0, 200));
    }

    /** 0 at 200 alone is left, which 1 and 2 do not admit. */
    private static PackageForge withoutReleases() {
        PackageForge busy = States.busy();
        busy.yank(0, 100);
        return busy;
    }

    private void versionsInLocks() {
        bounds.sentence("Promise 25", "Returns the version of another package in the lock of a release.",
                "Returns the version, or 0 if the lock does not have it.");
        forge = chain();
        bounds.due("the greatest package's next one", 100, () -> forge.locked(5, 100, 4));
        bounds.due("and the least one", 200, () -> forge.locked(5, 100, 0));
        bounds.due("the greatest one, itself", 0, () -> forge.locked(5, 100, 5));
        bounds.due("the least one, itself", 0, () -> forge.locked(0, 100, 0));
        bounds.due("a greater one", 0, () -> forge.locked(0, 100, 5));
        forge.dropNeed(5, 4);
        forge.need(5, 0, 100, 100);
        Forges.release(forge, 5);
        bounds.due("one that is not reached", 0, () -> forge.locked(5, 101, 4));
        bounds.due("one that is", 100, () -> forge.locked(5, 101, 0));
        forge.yank(0, 200);
        forge.yank(4, 100);
        bounds.due("a yanked one stays in a lock", 200, () -> forge.locked(5, 100, 0));
        bounds.due("and in that of a yanked one", 200, () -> forge.locked(4, 100, 0));
    }

    private void lockOfNoPackage() {
        bounds.sentence("Promise 25", NUMBER, "`other`: the number of the other package",
                "Throws `IndexOutOfBoundsException` if there is no such package, for either");
        for (int number : Bounds.outside(0, 4)) {
            bounds.refused("package " + number, IndexOutOfBoundsException.class, States::busy,
                    busy -> busy.locked(number, 100, 0));
            bounds.refused("other " + number, IndexOutOfBoundsException.class, States::busy,
                    busy -> busy.locked(2, 100, number));
        }
    }

    private void lockOfNoRelease() {
        bounds.sentence("Promise 25", VERSION, "Throws `NoSuchElementException` if the package has no such release");
        noRelease((busy, number, version) -> busy.locked(number, version, 0));
    }

    private void ofNoPackage(String promise, OfRelease question) {
        bounds.sentence(promise, NUMBER, NO_PACKAGE);
        for (int number : Bounds.outside(0, 4)) {
            bounds.refused("package " + number, IndexOutOfBoundsException.class, States::busy,
                    busy -> question.ask(busy, number, 100));
        }
    }

    private void ofNoRelease(String promise, OfRelease question) {
        bounds.sentence(promise, VERSION, NO_RELEASE);
        noRelease(question);
    }

    private void noRelease(OfRelease question) {
        for (int version : new int[] {Integer.MIN_VALUE, -100, -1, 0, 1, 99, 102, 199, 201, 300, 999, 1000, 65636,
                Integer.MAX_VALUE}) {
            bounds.refused("version " + version, NoSuchElementException.class, States::busy,
                    busy -> question.ask(busy, 0, version));
        }
        for (int version : new int[] {0, 100, 101}) {
            bounds.refused("a package without releases, " + version, NoSuchElementException.class, States::busy,
                    busy -> question.ask(busy, 3, version));
        }
        bounds.refused("another package's release", NoSuchElementException.class, States::busy,
                busy -> question.ask(busy, 1, 200));
    }
}
