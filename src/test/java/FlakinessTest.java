/** Promises 17 and 18: flaky, flakiest. */
final class FlakinessTest {
    static void run(Expect expect) {
        flaky(expect);
        lastEight(expect);
        flakiest(expect);
    }

    private static PackageForge withTests(int count) {
        PackageForge forge = Forges.withPackages(2);
        for (int i = 0; i < count; i++) {
            forge.addTest(0, 1);
        }
        forge.fund(0, 9999);
        forge.compile(0);
        return forge;
    }

    /** Runs the tests of package 0 once for each sign: F where the one given fails. */
    private static void results(PackageForge forge, int test, String signs) {
        for (char sign : signs.toCharArray()) {
            forge.setFailing(test, sign == 'F');
            forge.test(0);
        }
    }

    private static void flaky(Expect expect) {
        PackageForge forge = withTests(2);
        expect.noPackage("test -1", () -> forge.flaky(-1));
        expect.noPackage("test 2", () -> forge.flaky(2));
        expect.equal("no results", 0, () -> forge.flaky(0));
        forge.setFailing(0, true);
        expect.equal("set, but not run", 0, () -> forge.flaky(0));
        results(forge, 0, "F");
        expect.equal("F", 0, () -> forge.flaky(0));
        results(forge, 0, "F.");
        expect.equal("FF.", 1, () -> forge.flaky(0));
        results(forge, 0, ".FF");
        expect.equal("FF..FF", 2, () -> forge.flaky(0));
        expect.equal("the other test", 0, () -> forge.flaky(1));
    }

    private static void lastEight(Expect expect) {
        PackageForge forge = withTests(1);
        results(forge, 0, "F.F.F.F.");
        expect.equal("eight results", 7, () -> forge.flaky(0));
        results(forge, 0, "F");
        expect.equal("the ninth takes the first one's place", 7, () -> forge.flaky(0));
        results(forge, 0, "F");
        expect.equal("one turn is forgotten", 6, () -> forge.flaky(0));
        results(forge, 0, "FFFFFF");
        expect.equal(".FF..: all turns but none of the last eight", 0, () -> forge.flaky(0));
        results(forge, 0, ".......");
        expect.equal("F.......", 1, () -> forge.flaky(0));
        results(forge, 0, ".");
        expect.equal("the result ahead is out of the record", 0, () -> forge.flaky(0));
    }

    private static void flakiest(Expect expect) {
        expect.missing("no tests", () -> Forges.withPackages(1).flakiest());
        PackageForge forge = withTests(3);
        expect.equal("none is flaky: the lowest", 0, forge::flakiest);
        results(forge, 2, ".F");
        expect.equal("the only flaky one", 2, forge::flakiest);
        results(forge, 1, ".F");
        expect.equal("as flaky, but lower", 1, forge::flakiest);
        results(forge, 2, ".");
        expect.equal("flakier again", 2, forge::flakiest);
        results(forge, 0, "F.F.");
        expect.equal("the flakiest", 0, forge::flakiest);
    }
}
