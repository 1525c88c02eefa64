/** Promises 8 and 9: compile, compiled. */
final class CompilingTest {
    static void run(Expect expect) {
        ownSource(expect);
        directNeeds(expect);
        interfacesOfNeeds(expect);
        reachedOnly(expect);
        refusals(expect);
    }

    private static void compiles(Expect expect, String what, boolean due, PackageForge forge, int number) {
        expect.equal(what, due, () -> forge.compile(number));
    }

    private static void ownSource(Expect expect) {
        PackageForge forge = Forges.withPackages(2);
        compiles(expect, "not compiled before", true, forge, 0);
        compiles(expect, "compiled", false, forge, 0);
        forge.setSource(0, 1, 0);
        compiles(expect, "another interface", true, forge, 0);
        forge.setSource(0, 1, 1);
        compiles(expect, "another body", true, forge, 0);
        forge.setSource(0, 1, 2);
        forge.setSource(0, 1, 1);
        compiles(expect, "the same body again", false, forge, 0);
        expect.equal("three were needed", 3, forge::compiled);
        compiles(expect, "the other package was not", true, forge, 1);
        expect.equal("all packages count", 4, forge::compiled);
    }

    private static void directNeeds(Expect expect) {
        PackageForge forge = Forges.withPackages(3);
        Forges.release(forge, 0);
        Forges.release(forge, 1);
        compiles(expect, "without needs", true, forge, 2);
        forge.need(2, 0, 100, 999);
        compiles(expect, "a need more", true, forge, 2);
        forge.need(2, 0, 100, 100);
        compiles(expect, "another range of the same need", false, forge, 2);
        forge.dropNeed(2, 0);
        forge.need(2, 1, 100, 999);
        compiles(expect, "another package with the same interface", true, forge, 2);
        forge.dropNeed(2, 1);
        compiles(expect, "a need less", true, forge, 2);
        compiles(expect, "no needs as then", false, forge, 2);
    }

    private static void interfacesOfNeeds(Expect expect) {
        PackageForge forge = Forges.withPackages(2);
        Forges.release(forge, 0);
        forge.need(1, 0, 100, 999);
        compiles(expect, "with 100", true, forge, 1);
        forge.setSource(0, 0, 5);
        Forges.release(forge, 0);
        expect.equal("101 is chosen", 101, () -> forge.chosen(1, 0));
        compiles(expect, "another body of the needed one", false, forge, 1);
        forge.setSource(0, 7, 5);
        compiles(expect, "another source of the needed one", false, forge, 1);
        Forges.release(forge, 0);
        compiles(expect, "200 has another interface", true, forge, 1);
        forge.need(1, 0, 100, 199);
        compiles(expect, "back to the first interface", true, forge, 1);
        forge.yank(0, 101);
        compiles(expect, "100 has the same as 101", false, forge, 1);
        forge.need(1, 0, 100, 999);
        expect.equal("200 is chosen", 200, () -> forge.chosen(1, 0));
        compiles(expect, "what counts was compiled last", true, forge, 1);
    }

    /** The interface of a package that is reached, but not needed directly, does not matter. */
    private static void reachedOnly(Expect expect) {
        PackageForge forge = Forges.withPackages(3);
        Forges.release(forge, 0);
        forge.need(1, 0, 100, 999);
        Forges.release(forge, 1);
        forge.need(2, 1, 100, 999);
        compiles(expect, "at first", true, forge, 2);
        Forges.releaseWithFace(forge, 0, 9);
        expect.equal("another 0 is reached", 200, () -> forge.chosen(2, 0));
        compiles(expect, "it is not needed directly", false, forge, 2);
        forge.need(2, 0, 100, 999);
        compiles(expect, "needed directly, it matters", true, forge, 2);
        forge.need(2, 0, 100, 100);
        compiles(expect, "with its interface", true, forge, 2);
    }

    private static void refusals(Expect expect) {
        PackageForge forge = Forges.withPackages(2);
        forge.need(1, 0, 100, 999);
        expect.noPackage("package -1", () -> forge.compile(-1));
        expect.noPackage("package 2", () -> forge.compile(2));
        expect.unsupported("no choice", () -> forge.compile(1));
        expect.equal("refusals do not count", 0, forge::compiled);
        forge.dropNeed(1, 0);
        compiles(expect, "nothing was compiled", true, forge, 1);
    }
}
