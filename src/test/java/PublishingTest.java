/** Promises 19 to 21: canPublish, nextVersion, publish. */
final class PublishingTest {
    static void run(Expect expect) {
        canPublishOwnSource(expect);
        canPublishNeeds(expect);
        canPublishChoice(expect);
        nextVersion(expect);
        publish(expect);
        versionsBeyond999(expect);
        twentyReleases(expect);
    }

    private static void can(Expect expect, String what, boolean due, PackageForge forge, int number) {
        expect.equal(what, due, () -> forge.canPublish(number));
    }

    private static void canPublishOwnSource(Expect expect) {
        PackageForge forge = Forges.withPackages(1);
        forge.addTest(0, 1);
        forge.fund(0, 100);
        expect.noPackage("package -1", () -> forge.canPublish(-1));
        expect.noPackage("package 1", () -> forge.canPublish(1));
        can(expect, "not tested", false, forge, 0);
        forge.compile(0);
        can(expect, "only compiled", false, forge, 0);
        forge.test(0);
        can(expect, "passed", true, forge, 0);
        forge.setSource(0, 0, 1);
        can(expect, "another body", false, forge, 0);
        forge.setSource(0, 1, 0);
        can(expect, "another interface", false, forge, 0);
        forge.compile(0);
        can(expect, "compiled, but not tested", false, forge, 0);
        forge.setSource(0, 0, 0);
        can(expect, "the source is as it was then", true, forge, 0);
        forge.setFailing(0, true);
        can(expect, "it passed when it was tested last", true, forge, 0);
        forge.compile(0);
        forge.test(0);
        can(expect, "failed", false, forge, 0);
        forge.setFailing(0, false);
        can(expect, "failed when it was tested last", false, forge, 0);
        forge.test(0);
        can(expect, "passed again", true, forge, 0);
        forge.addTest(0, 1);
        can(expect, "a test more", true, forge, 0);
    }

    private static void canPublishNeeds(Expect expect) {
        PackageForge forge = Forges.withPackages(3);
        Forges.release(forge, 0);
        Forges.release(forge, 1);
        forge.need(2, 0, 100, 200);
        forge.compile(2);
        forge.test(2);
        can(expect, "with its needs", true, forge, 2);
        forge.need(2, 0, 100, 201);
        can(expect, "another greatest version", false, forge, 2);
        forge.need(2, 0, 100, 200);
        can(expect, "the range is as it was then", true, forge, 2);
        forge.need(2, 1, 100, 200);
        can(expect, "a need more", false, forge, 2);
        forge.dropNeed(2, 0);
        can(expect, "another need", false, forge, 2);
        forge.dropNeed(2, 1);
        can(expect, "no need", false, forge, 2);
        expect.equal("0 is released again", 101, () -> forge.publish(0));
        forge.need(2, 0, 101, 200);
        forge.test(2);
        forge.need(2, 0, 100, 200);
        expect.equal("the same choice", 101, () -> forge.chosen(2, 0));
        can(expect, "with another least version", false, forge, 2);
    }

    private static void canPublishChoice(Expect expect) {
        PackageForge forge = Forges.withPackages(3);
        Forges.release(forge, 0);
        forge.need(1, 0, 100, 999);
        Forges.release(forge, 1);
        forge.need(2, 1, 100, 999);
        forge.compile(2);
        forge.test(2);
        can(expect, "with its choice", true, forge, 2);
        Forges.release(forge, 0);
        can(expect, "a reached package has a greater version", false, forge, 2);
        forge.yank(0, 101);
        can(expect, "the same choice again", true, forge, 2);
        forge.yank(0, 100);
        can(expect, "no choice", false, forge, 2);
        expect.unsupported("so it is not published", () -> forge.publish(2));
    }

    private static void nextVersion(Expect expect) {
        PackageForge forge = Forges.withPackages(2);
        expect.noPackage("package -1", () -> forge.nextVersion(-1));
        expect.noPackage("package 2", () -> forge.nextVersion(2));
        expect.equal("the first one", 100, () -> forge.nextVersion(0));
        forge.setSource(0, 9, 9);
        expect.equal("the first one, whatever the source", 100, () -> forge.nextVersion(0));
        Forges.release(forge, 0);
        expect.equal("1 greater", 101, () -> forge.nextVersion(0));
        forge.setSource(0, 8, 9);
        expect.equal("another interface", 200, () -> forge.nextVersion(0));
        forge.setSource(0, 9, 8);
        expect.equal("another body", 101, () -> forge.nextVersion(0));
        Forges.release(forge, 0);
        forge.setSource(0, 8, 9);
        expect.equal("the next multiple of 100", 200, () -> forge.nextVersion(0));
        forge.setSource(0, 9, 9);
        forge.yank(0, 101);
        expect.equal("a yanked one is the last one too", 102, () -> forge.nextVersion(0));
        expect.equal("each package has its own", 100, () -> forge.nextVersion(1));
    }

    private static void publish(Expect expect) {
        PackageForge forge = Forges.withPackages(2);
        expect.noPackage("package -1", () -> forge.publish(-1));
        expect.noPackage("package 2", () -> forge.publish(2));
        expect.unsupported("not tested", () -> forge.publish(0));
        expect.equal("100", 100, () -> Forges.release(forge, 0));
        expect.equal("the same source once more", 101, () -> forge.publish(0));
        expect.equal("another interface", 200, () -> Forges.releaseWithFace(forge, 0, 1));
        expect.equal("another interface again", 300, () -> Forges.releaseWithFace(forge, 0, 0));
        expect.equal("the same one", 301, () -> forge.publish(0));
        forge.need(1, 0, 100, 299);
        expect.equal("with a need", 100, () -> Forges.release(forge, 1));
        expect.equal("the choice is its lock", 200, () -> forge.locked(1, 100, 0));
        forge.need(1, 0, 100, 199);
        expect.unsupported("another range", () -> forge.publish(1));
        expect.equal("tested anew", 101, () -> Forges.release(forge, 1));
        expect.equal("its own lock", 101, () -> forge.locked(1, 101, 0));
        expect.equal("the old lock stands", 200, () -> forge.locked(1, 100, 0));
    }

    private static void versionsBeyond999(Expect expect) {
        PackageForge forge = Forges.withPackages(2);
        for (int face = 0; face < 9; face++) {
            Forges.releaseWithFace(forge, 0, face);
        }
        expect.equal("900 is the last one", 901, () -> forge.nextVersion(0));
        forge.setSource(0, 10, 0);
        expect.equal("beyond 999", 1000, () -> forge.nextVersion(0));
        forge.compile(0);
        forge.test(0);
        expect.equal("it could be published", true, () -> forge.canPublish(0));
        expect.unsupported("but for its version", () -> forge.publish(0));
        expect.missing("no such release", () -> forge.isStale(0, 1000));
        forge.setSource(0, 8, 0);
        expect.equal("901 can be", 901, () -> Forges.release(forge, 0));
        forge.need(1, 0, 100, 999);
        expect.equal("it is chosen", 901, () -> forge.chosen(1, 0));
    }

    private static void twentyReleases(Expect expect) {
        PackageForge forge = Forges.withPackages(2);
        for (int face = 0; face < 9; face++) {
            Forges.releaseWithFace(forge, 0, face);
        }
        for (int i = 0; i < 11; i++) {
            Forges.release(forge, 1);
        }
        expect.badState("21st release", () -> forge.publish(1));
        expect.badState("21st release, of the other package", () -> forge.publish(0));
        forge.setSource(1, 5, 5);
        expect.unsupported("21st release, untested", () -> forge.publish(1));
        forge.setSource(0, 77, 0);
        forge.compile(0);
        forge.test(0);
        expect.unsupported("21st release, beyond 999", () -> forge.publish(0));
        forge.yank(1, 110);
        forge.setSource(1, 0, 0);
        expect.badState("yanked ones count", () -> forge.publish(1));
        expect.equal("the last version stands", 111, () -> forge.nextVersion(1));
    }
}
