/** Boundary cases of promises 8 and 9, and what the terms say of compiling. */
final class CompileBoundsTest {
    private static final String COMPILING = "A package compiles if there is a choice for it; it is compiled then, if"
            + " that is needed: if it was not compiled before, or its interface or its body differs from what was"
            + " compiled last, or the packages that it needs directly are not the same ones as then, or the interface"
            + " of one of these differs from that which it had in the choice then.";

    private final Bounds bounds;
    private PackageForge forge;

    private CompileBoundsTest(Bounds bounds) {
        this.bounds = bounds;
    }

    static void run(Bounds bounds) {
        CompileBoundsTest test = new CompileBoundsTest(bounds);
        test.notCompiledBefore();
        test.endsOfSigns();
        test.needsWithInterfaceZero();
        test.interfaceInTheChoice();
        test.ofNoPackage();
        test.withoutChoice();
        test.timesCompiled();
    }

    private void compiles(String what, boolean due, int number) {
        bounds.due(what, due, () -> forge.compile(number));
    }

    private void notCompiledBefore() {
        bounds.sentence("Terms", COMPILING);
        bounds.alsoSentence("Promise 8", "Compiles a package.", "Returns whether that was needed.");
        forge = Forges.withPackages(6);
        for (int number = 0; number < 6; number++) {
            compiles("interface 0, body 0, no needs", true, number);
            compiles("compiled before", false, number);
        }
    }

    private void endsOfSigns() {
        bounds.sentence("Terms", COMPILING);
        forge = Forges.withPackages(1);
        forge.compile(0);
        for (int[] source : new int[][] {{999, 0}, {999, 999}, {998, 999}, {998, 998}, {0, 998}, {0, 0}, {0, 1}}) {
            forge.setSource(0, source[0], source[1]);
            compiles("one of both differs", true, 0);
            compiles("none of both differs", false, 0);
        }
        forge.setSource(0, 1, 0);
        compiles("both are exchanged", true, 0);
    }

    /** The needed packages' interfaces are 0, as where there is no need. */
    private void needsWithInterfaceZero() {
        bounds.sentence("Terms", COMPILING);
        forge = Forges.withPackages(6);
        for (int number = 0; number < 5; number++) {
            Forges.release(forge, number);
        }
        compiles("no needs", true, 5);
        for (int other = 4; other >= 0; other--) {
            forge.need(5, other, 100, 999);
            compiles("a need more", true, 5);
            forge.need(5, other, 100, 100);
            compiles("the same packages in other ranges", false, 5);
        }
        forge.dropNeed(5, 0);
        compiles("a need less", true, 5);
        forge.dropNeed(5, 4);
        forge.need(5, 0, 100, 999);
        compiles("as many needs, but another one", true, 5);
    }

    private void interfaceInTheChoice() {
        bounds.sentence("Terms", COMPILING);
        forge = Forges.withPackages(3);
        Forges.releaseWithFace(forge, 0, 999);
        forge.setSource(0, 999, 1);
        Forges.release(forge, 0);
        Forges.releaseWithFace(forge, 0, 998);
        forge.need(1, 0, 100, 100);
        Forges.release(forge, 1);
        forge.need(1, 0, 100, 101);
        compiles("another version with the same interface", false, 1);
        forge.need(1, 0, 100, 999);
        compiles("another interface", true, 1);
        forge.yank(0, 200);
        compiles("the interface from before the last time", true, 1);
        forge.setSource(0, 5, 5);
        compiles("the interface of the needed one's source does not count", false, 1);
        forge.need(2, 1, 100, 999);
        compiles("a need of 1", true, 2);
        forge.setSource(1, 0, 7);
        forge.need(1, 0, 200, 999);
        forge.setSource(0, 997, 0);
        Forges.release(forge, 0);
        Forges.release(forge, 1);
        bounds.due("a reached one has another interface", 300, () -> forge.chosen(2, 0));
        compiles("but it is not needed directly", false, 2);
    }

    private void ofNoPackage() {
        bounds.sentence("Promise 8", "`number`: the number of the package",
                "Throws `IndexOutOfBoundsException` if there is no such package");
        for (int number : Bounds.outside(0, 4)) {
            bounds.refused("package " + number, IndexOutOfBoundsException.class, States::busy,
                    busy -> busy.compile(number));
        }
    }

    private void withoutChoice() {
        bounds.sentence("Promise 8", "Throws `UnsupportedOperationException` if there is no choice");
        bounds.refused("not compiled before", UnsupportedOperationException.class, States::busy,
                busy -> busy.compile(4));
        bounds.refused("compiled before", UnsupportedOperationException.class, CompileBoundsTest::withoutReleases,
                busy -> busy.compile(1));
        forge = withoutReleases();
        forge.dropNeed(1, 0);
        forge.compile(1);
        forge.need(1, 0, 100, 199);
        bounds.due("no choice with the need", UnsupportedOperationException.class, () -> forge.compile(1));
        forge.dropNeed(1, 0);
        compiles("what was compiled last stands", false, 1);
    }

    /** No release of 0 is left. */
    private static PackageForge withoutReleases() {
        PackageForge busy = States.busy();
        busy.yank(0, 100);
        busy.yank(0, 200);
        return busy;
    }

    private void timesCompiled() {
        bounds.sentence("Promise 9", "Returns how often packages were compiled because that was needed.",
                "Returns the number of times.");
        forge = new PackageForge();
        bounds.due("no packages", 0, forge::compiled);
        forge.addPackage(0);
        forge.addPackage(0);
        bounds.due("not compiled", 0, forge::compiled);
        forge.compile(0);
        bounds.due("once", 1, forge::compiled);
        forge.compile(0);
        bounds.due("not needed", 1, forge::compiled);
        forge.compile(1);
        bounds.due("another package", 2, forge::compiled);
        forge.test(0);
        forge.publish(0);
        bounds.due("tested and published", 2, forge::compiled);
        forge.setSource(0, 0, 1);
        bounds.due("to be compiled", 2, forge::compiled);
        forge.compile(0);
        bounds.due("the same package again", 3, forge::compiled);
    }
}
