/** Promises 10 to 16: addTest, setFailing, setMachines, fund, budget, testTime, test. */
final class TestingTest {
    static void run(Expect expect) {
        addTest(expect);
        setFailing(expect);
        setMachines(expect);
        fundAndBudget(expect);
        testTime(expect);
        longestFirst(expect);
        test(expect);
        testRefusals(expect);
    }

    private static void addTest(Expect expect) {
        PackageForge forge = Forges.withPackages(2);
        expect.noPackage("package -1", () -> forge.addTest(-1, 1));
        expect.noPackage("package 2, and a bad length", () -> forge.addTest(2, 0));
        expect.badArgument("length 0", () -> forge.addTest(0, 0));
        expect.badArgument("length 61", () -> forge.addTest(0, 61));
        for (int i = 0; i < 8; i++) {
            int number = i;
            int length = i == 0 ? 1 : i == 1 ? 60 : 10 + i;
            expect.equal("addTest", number, () -> forge.addTest(number % 2, length));
        }
        expect.badState("ninth test", () -> forge.addTest(0, 1));
        expect.badArgument("ninth test, bad length", () -> forge.addTest(0, 61));
        expect.noPackage("ninth test, no package", () -> forge.addTest(2, 1));
        expect.noPackage("ninth test is not there", () -> forge.flaky(8));
    }

    private static void setFailing(Expect expect) {
        PackageForge forge = Forges.withPackages(1);
        expect.noPackage("no test", () -> forge.setFailing(0, true));
        forge.addTest(0, 1);
        forge.addTest(0, 1);
        expect.equal("at first not", false, () -> forge.setFailing(0, true));
        expect.equal("now it does", true, () -> forge.setFailing(0, true));
        expect.equal("it did", true, () -> forge.setFailing(0, false));
        expect.equal("no more", false, () -> forge.setFailing(0, false));
        expect.equal("the other one never did", false, () -> forge.setFailing(1, false));
        expect.noPackage("test -1", () -> forge.setFailing(-1, true));
        expect.noPackage("test 2", () -> forge.setFailing(2, true));
    }

    private static void setMachines(Expect expect) {
        PackageForge forge = new PackageForge();
        expect.equal("one at first", 1, () -> forge.setMachines(4));
        expect.badArgument("0 machines", () -> forge.setMachines(0));
        expect.badArgument("5 machines", () -> forge.setMachines(5));
        expect.badArgument("-1 machines", () -> forge.setMachines(-1));
        expect.equal("four", 4, () -> forge.setMachines(1));
        expect.equal("one", 1, () -> forge.setMachines(3));
        expect.equal("three", 3, () -> forge.setMachines(2));
    }

    private static void fundAndBudget(Expect expect) {
        PackageForge forge = new PackageForge();
        expect.equal("one minute", 1, () -> forge.fund(0, 1));
        expect.equal("most minutes", 10000, () -> forge.fund(0, 9999));
        expect.equal("another owner", 7, () -> forge.fund(2, 7));
        expect.badArgument("owner -1", () -> forge.fund(-1, 5));
        expect.badArgument("owner 3", () -> forge.fund(3, 5));
        expect.badArgument("0 minutes", () -> forge.fund(0, 0));
        expect.badArgument("-1 minutes", () -> forge.fund(0, -1));
        expect.badArgument("10000 minutes", () -> forge.fund(0, 10000));
        expect.badArgument("budget of -1", () -> forge.budget(-1));
        expect.badArgument("budget of 3", () -> forge.budget(3));
        expect.equal("budget of 0", 10000, () -> forge.budget(0));
        expect.equal("budget of 1", 0, () -> forge.budget(1));
        expect.equal("budget of 2", 7, () -> forge.budget(2));
    }

    private static void testTime(Expect expect) {
        PackageForge forge = Forges.withPackages(2);
        expect.equal("no tests", 0, () -> forge.testTime(0));
        expect.noPackage("package -1", () -> forge.testTime(-1));
        expect.noPackage("package 2", () -> forge.testTime(2));
        forge.addTest(0, 60);
        forge.addTest(1, 7);
        forge.addTest(0, 1);
        expect.equal("one after the other", 61, () -> forge.testTime(0));
        expect.equal("its own tests alone", 7, () -> forge.testTime(1));
        forge.setMachines(2);
        expect.equal("side by side", 60, () -> forge.testTime(0));
        forge.setMachines(4);
        expect.equal("more machines than tests", 60, () -> forge.testTime(0));
        forge.setMachines(1);
        expect.equal("one machine again", 61, () -> forge.testTime(0));
    }

    private static void longestFirst(Expect expect) {
        PackageForge forge = Forges.withPackages(1);
        for (int length : new int[] {10, 11, 20}) {
            forge.addTest(0, length);
        }
        forge.setMachines(2);
        expect.equal("20, 11+10; by their numbers 10+20, 11", 21, () -> forge.testTime(0));
        forge.addTest(0, 9);
        expect.equal("20+9, 11+10; the fourth waits for machine 0", 29, () -> forge.testTime(0));
        forge.setMachines(3);
        expect.equal("20, 11, 10+9", 20, () -> forge.testTime(0));

        PackageForge greedy = Forges.withPackages(1);
        for (int length : new int[] {2, 2, 2, 3, 3}) {
            greedy.addTest(0, length);
        }
        greedy.setMachines(2);
        expect.equal("3+2+2, 3+2, though 6 could be", 7, () -> greedy.testTime(0));
    }

    private static void test(Expect expect) {
        PackageForge forge = Forges.withPackages(3);
        forge.addTest(1, 10);
        forge.addTest(1, 20);
        forge.addTest(0, 5);
        forge.setMachines(4);
        forge.fund(1, 91);
        forge.compile(1);
        forge.compile(2);
        expect.equal("none fails", 0, () -> forge.test(1));
        expect.equal("the sum is paid, not the time", 61, () -> forge.budget(1));
        forge.setFailing(0, true);
        forge.setFailing(2, true);
        expect.equal("one of its own fails", 1, () -> forge.test(1));
        forge.setFailing(1, true);
        expect.equal("both fail", 2, () -> forge.test(1));
        expect.equal("failing costs as much", 1, () -> forge.budget(1));
        expect.equal("without tests and minutes", 0, () -> forge.test(2));
        expect.equal("others do not pay", 0, () -> forge.budget(0));
    }

    private static void testRefusals(Expect expect) {
        PackageForge forge = Forges.withPackages(2);
        forge.addTest(1, 10);
        expect.noPackage("package -1", () -> forge.test(-1));
        expect.noPackage("package 2", () -> forge.test(2));
        forge.need(1, 0, 100, 999);
        expect.unsupported("no choice, and not compiled", () -> forge.test(1));
        forge.dropNeed(1, 0);
        expect.badState("not compiled", () -> forge.test(1));
        forge.compile(1);
        expect.badState("no minutes", () -> forge.test(1));
        forge.fund(1, 9);
        expect.badState("too few minutes", () -> forge.test(1));
        expect.equal("nothing was paid", 9, () -> forge.budget(1));
        expect.refused("none was tested", ArithmeticException.class, forge::meanPaid);
        expect.equal("not passed either", false, () -> forge.canPublish(1));
        forge.fund(1, 1);
        expect.equal("just enough", 0, () -> forge.test(1));
        expect.equal("all is paid", 0, () -> forge.budget(1));
        forge.fund(1, 100);
        forge.setSource(1, 0, 1);
        expect.badState("to be compiled again", () -> forge.test(1));
        Forges.release(forge, 0);
        forge.compile(1);
        forge.need(1, 0, 100, 999);
        expect.badState("to be compiled with the need", () -> forge.test(1));
        expect.equal("still nothing was paid", 100, () -> forge.budget(1));
    }
}
