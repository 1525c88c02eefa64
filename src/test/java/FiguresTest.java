/** Promises 26 and 27: goodShare, meanPaid. */
final class FiguresTest {
    static void run(Expect expect) {
        goodShare(expect);
        meanPaid(expect);
    }

    private static void goodShare(Expect expect) {
        expect.refused("no releases", ArithmeticException.class, () -> Forges.withPackages(2).goodShare());
        PackageForge forge = Forges.withPackages(3);
        Forges.release(forge, 0);
        expect.equal("all good", 1f, forge::goodShare);
        forge.need(1, 0, 100, 999);
        Forges.release(forge, 1);
        forge.need(2, 1, 100, 999);
        Forges.release(forge, 2);
        expect.equal("three good", 1f, forge::goodShare);
        forge.yank(1, 100);
        expect.equal("one yanked, one stale", 1f / 3f, forge::goodShare);
        forge.yank(2, 100);
        expect.equal("two yanked, none stale", 1f / 3f, forge::goodShare);
        Forges.release(forge, 1);
        expect.equal("two of four", 0.5f, forge::goodShare);
        forge.yank(0, 100);
        expect.equal("none good", 0f, forge::goodShare);
    }

    private static void meanPaid(Expect expect) {
        PackageForge forge = Forges.withPackages(2);
        forge.addTest(0, 10);
        forge.fund(0, 100);
        forge.compile(0);
        expect.refused("none was tested", ArithmeticException.class, forge::meanPaid);
        forge.test(0);
        expect.equal("once", 10.0, forge::meanPaid);
        forge.compile(1);
        forge.test(1);
        expect.equal("one without tests counts", 5.0, forge::meanPaid);
        forge.test(1);
        expect.equal("a third", 10.0 / 3.0, forge::meanPaid);
        forge.addTest(0, 7);
        forge.setFailing(0, true);
        forge.test(0);
        expect.equal("a failed one counts", 27.0 / 4.0, forge::meanPaid);
        forge.fund(0, 9999);
        expect.equal("funds do not count", 27.0 / 4.0, forge::meanPaid);
    }
}
