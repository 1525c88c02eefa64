/** Promises 1 to 5: a new object, addPackage, setSource, need, dropNeed. */
final class PackagesTest {
    static void run(Expect expect) {
        newObject(expect);
        addPackage(expect);
        setSource(expect);
        need(expect);
        needRefusals(expect);
        dropNeed(expect);
    }

    private static void newObject(Expect expect) {
        PackageForge forge = new PackageForge();
        expect.noPackage("new: no package", () -> forge.nextVersion(0));
        expect.noPackage("new: no test", () -> forge.flaky(0));
        expect.missing("new: no tests", forge::flakiest);
        expect.equal("new: nothing compiled", 0, forge::compiled);
        for (int owner = 0; owner < 3; owner++) {
            int which = owner;
            expect.equal("new: budget", 0, () -> forge.budget(which));
        }
        expect.refused("new: no releases", ArithmeticException.class, forge::goodShare);
        expect.refused("new: nothing paid", ArithmeticException.class, forge::meanPaid);
        expect.equal("new: one machine", 1, () -> forge.setMachines(4));
    }

    private static void addPackage(Expect expect) {
        PackageForge forge = new PackageForge();
        expect.badArgument("owner -1", () -> forge.addPackage(-1));
        expect.badArgument("owner 3", () -> forge.addPackage(3));
        expect.badArgument("least owner", () -> forge.addPackage(Integer.MIN_VALUE));
        for (int i = 0; i < 6; i++) {
            int number = i;
            expect.equal("addPackage", number, () -> forge.addPackage(number % 3));
        }
        expect.badState("seventh package", () -> forge.addPackage(0));
        expect.badArgument("seventh package, no such owner", () -> forge.addPackage(3));
        expect.equal("sixth package stands", 100, () -> forge.nextVersion(5));
        expect.noPackage("seventh package is not there", () -> forge.nextVersion(6));
    }

    private static void setSource(Expect expect) {
        PackageForge forge = Forges.withPackages(2);
        expect.equal("source at first 0, 0", 0, () -> forge.setSource(0, 0, 0));
        expect.equal("interface differs", 1, () -> forge.setSource(0, 999, 0));
        expect.equal("body differs", 1, () -> forge.setSource(0, 999, 999));
        expect.equal("both differ", 2, () -> forge.setSource(0, 3, 4));
        expect.equal("swapped", 2, () -> forge.setSource(0, 4, 3));
        expect.equal("none differs", 0, () -> forge.setSource(0, 4, 3));
        expect.equal("the other package has its own", 0, () -> forge.setSource(1, 0, 0));
        expect.badArgument("interface -1", () -> forge.setSource(0, -1, 0));
        expect.badArgument("interface 1000", () -> forge.setSource(0, 1000, 0));
        expect.badArgument("body -1", () -> forge.setSource(0, 0, -1));
        expect.badArgument("body 1000", () -> forge.setSource(0, 0, 1000));
        expect.noPackage("package -1", () -> forge.setSource(-1, 0, 0));
        expect.noPackage("package 2, and a bad body", () -> forge.setSource(2, 0, 1000));
        expect.equal("refusals change nothing", 0, () -> forge.setSource(0, 4, 3));
    }

    private static void need(Expect expect) {
        PackageForge forge = Forges.withPackages(3);
        expect.equal("first need", 1, () -> forge.need(2, 0, 100, 999));
        expect.equal("second need", 2, () -> forge.need(2, 1, 100, 100));
        expect.equal("in place of such a need", 2, () -> forge.need(2, 1, 999, 999));
        expect.equal("each package has its own needs", 1, () -> forge.need(1, 0, 150, 160));

        PackageForge released = Forges.withThreeReleases(2);
        released.need(1, 0, 100, 999);
        expect.equal("wide range", 200, () -> released.chosen(1, 0));
        released.need(1, 0, 100, 199);
        expect.equal("the new range counts", 101, () -> released.chosen(1, 0));
        released.need(1, 0, 101, 101);
        expect.equal("both ends belong to the range", 101, () -> released.chosen(1, 0));
        released.need(1, 0, 102, 199);
        expect.unsupported("the old range does not count", () -> released.chosen(1, 0));
    }

    private static void needRefusals(Expect expect) {
        PackageForge forge = Forges.withPackages(2);
        expect.noPackage("package -1", () -> forge.need(-1, 0, 100, 200));
        expect.noPackage("package 2", () -> forge.need(2, 0, 100, 200));
        expect.noPackage("other -1", () -> forge.need(1, -1, 100, 200));
        expect.noPackage("other 2, and bad versions", () -> forge.need(1, 2, 0, 0));
        expect.badArgument("itself", () -> forge.need(1, 1, 100, 200));
        expect.badArgument("a greater one", () -> forge.need(0, 1, 100, 200));
        expect.badArgument("least 99", () -> forge.need(1, 0, 99, 200));
        expect.badArgument("greatest 1000", () -> forge.need(1, 0, 100, 1000));
        expect.badArgument("least 1000", () -> forge.need(1, 0, 1000, 1000));
        expect.badArgument("greatest below least", () -> forge.need(1, 0, 200, 199));
        expect.missing("refused needs are none", () -> forge.dropNeed(1, 0));
        expect.equal("one version", 1, () -> forge.need(1, 0, 200, 200));
    }

    private static void dropNeed(Expect expect) {
        PackageForge forge = Forges.withPackages(3);
        forge.need(2, 0, 100, 999);
        forge.need(2, 1, 100, 999);
        expect.unsupported("needs without releases", () -> forge.chosen(2, 0));
        expect.equal("one need is left", 1, () -> forge.dropNeed(2, 0));
        expect.missing("dropped already", () -> forge.dropNeed(2, 0));
        expect.equal("no need is left", 0, () -> forge.dropNeed(2, 1));
        expect.equal("a dropped need does not count", 0, () -> forge.chosen(2, 0));
        expect.missing("never needed", () -> forge.dropNeed(1, 0));
        expect.missing("itself", () -> forge.dropNeed(1, 1));
        expect.missing("a greater one", () -> forge.dropNeed(0, 2));
        expect.noPackage("package -1", () -> forge.dropNeed(-1, 0));
        expect.noPackage("package 3", () -> forge.dropNeed(3, 0));
        expect.noPackage("other -1", () -> forge.dropNeed(1, -1));
        expect.noPackage("other 3", () -> forge.dropNeed(1, 3));
        expect.equal("needed again", 1, () -> forge.need(2, 1, 100, 100));
    }
}
