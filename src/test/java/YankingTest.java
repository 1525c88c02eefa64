/** Promises 22 to 25: yank, isStale, relock, locked. */
final class YankingTest {
    static void run(Expect expect) {
        yank(expect);
        isStale(expect);
        relock(expect);
        relockComesAndGoes(expect);
        relockRefusals(expect);
        locked(expect);
    }

    /** 0 has 100, 101, 200; 1 at 100 has locked 0 at 200, and 2 at 100 both of these. */
    private static PackageForge withLocks() {
        PackageForge forge = Forges.withThreeReleases(4);
        forge.need(1, 0, 100, 999);
        Forges.release(forge, 1);
        forge.need(2, 1, 100, 999);
        Forges.release(forge, 2);
        return forge;
    }

    private static void yank(Expect expect) {
        PackageForge forge = withLocks();
        expect.noPackage("package -1", () -> forge.yank(-1, 100));
        expect.noPackage("package 4", () -> forge.yank(4, 100));
        expect.missing("version 0", () -> forge.yank(0, 0));
        expect.missing("version 102", () -> forge.yank(0, 102));
        expect.missing("another package's version", () -> forge.yank(1, 101));
        expect.missing("a package without releases", () -> forge.yank(3, 100));
        expect.equal("in no lock", 0, () -> forge.yank(0, 101));
        expect.equal("in two locks", 2, () -> forge.yank(0, 200));
        expect.badState("yanked already", () -> forge.yank(0, 200));
        expect.equal("stale itself", 1, () -> forge.yank(1, 100));
        expect.equal("a yanked one is not stale", 0, () -> forge.yank(2, 100));
        expect.equal("none is left that is", 0, () -> forge.yank(0, 100));
    }

    private static void isStale(Expect expect) {
        PackageForge forge = withLocks();
        expect.noPackage("package -1", () -> forge.isStale(-1, 100));
        expect.noPackage("package 4", () -> forge.isStale(4, 100));
        expect.missing("no such release", () -> forge.isStale(1, 200));
        expect.equal("at first not", false, () -> forge.isStale(2, 100));
        forge.yank(0, 200);
        expect.equal("directly", true, () -> forge.isStale(1, 100));
        expect.equal("over another one", true, () -> forge.isStale(2, 100));
        expect.equal("the yanked one", false, () -> forge.isStale(0, 200));
        expect.equal("one of the same package", false, () -> forge.isStale(0, 100));
        forge.relock(1, 100);
        expect.equal("locked anew", false, () -> forge.isStale(1, 100));
        expect.equal("its own lock counts", true, () -> forge.isStale(2, 100));
        forge.yank(2, 100);
        expect.equal("yanked now", false, () -> forge.isStale(2, 100));
    }

    private static void relock(Expect expect) {
        PackageForge forge = withLocks();
        expect.equal("nothing changes", 0, () -> forge.relock(2, 100));
        forge.yank(0, 200);
        expect.equal("one version changes", 1, () -> forge.relock(2, 100));
        expect.equal("to the one that is left", 101, () -> forge.locked(2, 100, 0));
        expect.equal("the other one stays", 100, () -> forge.locked(2, 100, 1));
        expect.equal("again nothing changes", 0, () -> forge.relock(2, 100));
        forge.setSource(0, 5, 5);
        Forges.release(forge, 0);
        expect.equal("not stale, but newer ones are there", 1, () -> forge.relock(2, 100));
        expect.equal("the newer one", 300, () -> forge.locked(2, 100, 0));
        forge.need(1, 0, 100, 101);
        Forges.release(forge, 1);
        expect.equal("both change", 2, () -> forge.relock(2, 100));
        expect.equal("the newer 1", 101, () -> forge.locked(2, 100, 1));
        expect.equal("and what it admits", 101, () -> forge.locked(2, 100, 0));
        expect.equal("without needs", 0, () -> forge.relock(0, 101));
    }

    private static void relockComesAndGoes(Expect expect) {
        PackageForge forge = withLocks();
        forge.dropNeed(1, 0);
        Forges.release(forge, 1);
        expect.equal("1 changes, 0 goes", 2, () -> forge.relock(2, 100));
        expect.equal("0 is not locked", 0, () -> forge.locked(2, 100, 0));
        expect.equal("1 is", 101, () -> forge.locked(2, 100, 1));
        forge.yank(1, 101);
        expect.equal("1 changes, 0 comes", 2, () -> forge.relock(2, 100));
        expect.equal("0 is locked", 200, () -> forge.locked(2, 100, 0));
        forge.need(2, 1, 101, 101);
        expect.equal("the release's needs count, not the source's", 0, () -> forge.relock(2, 100));
    }

    private static void relockRefusals(Expect expect) {
        PackageForge forge = withLocks();
        expect.noPackage("package -1", () -> forge.relock(-1, 100));
        expect.noPackage("package 4", () -> forge.relock(4, 100));
        expect.missing("no such release", () -> forge.relock(2, 101));
        forge.yank(1, 100);
        expect.unsupported("no choice", () -> forge.relock(2, 100));
        expect.equal("its lock stands", 100, () -> forge.locked(2, 100, 1));
        expect.equal("and is stale", true, () -> forge.isStale(2, 100));
        expect.badState("yanked", () -> forge.relock(1, 100));
        forge.yank(2, 100);
        expect.badState("yanked, and no choice", () -> forge.relock(2, 100));
    }

    private static void locked(Expect expect) {
        PackageForge forge = withLocks();
        expect.noPackage("package -1", () -> forge.locked(-1, 100, 0));
        expect.noPackage("package 4", () -> forge.locked(4, 100, 0));
        expect.noPackage("other -1", () -> forge.locked(1, 100, -1));
        expect.noPackage("other 4", () -> forge.locked(1, 100, 4));
        expect.noPackage("other 4, and no release", () -> forge.locked(1, 999, 4));
        expect.missing("no such release", () -> forge.locked(1, 999, 0));
        expect.equal("needed", 200, () -> forge.locked(1, 100, 0));
        expect.equal("reached", 200, () -> forge.locked(2, 100, 0));
        expect.equal("itself", 0, () -> forge.locked(2, 100, 2));
        expect.equal("not reached", 0, () -> forge.locked(0, 100, 0));
        expect.equal("a greater one", 0, () -> forge.locked(1, 100, 3));
        forge.yank(2, 100);
        forge.yank(0, 200);
        expect.equal("yanked ones keep their locks", 200, () -> forge.locked(2, 100, 0));
    }
}
