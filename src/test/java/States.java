/**
 * Forges in which calls are refused. A package's source is its number plus 1 and plus 2, so that
 * Probe sees whether a source is another one.
 */
final class States {
    private States() {
    }

    static PackageForge of(int packages) {
        PackageForge forge = Forges.withPackages(packages);
        for (int number = 0; number < packages; number++) {
            forge.setSource(number, number + 1, number + 2);
        }
        return forge;
    }

    /**
     * Five packages and five tests, 3 machines. 0 has the releases 100, 101 (yanked) and 200. 1 has
     * 100, locked anew to 0 at 100, 2 has 100, which is stale. 0 to 3 passed; 3 has no release, so there
     * is no choice for 4. The next results of tests 1 and 3 differ from those in their records.
     */
    static PackageForge busy() {
        PackageForge forge = of(5);
        forge.setMachines(3);
        int[] owners = {0, 0, 1, 2, 1};
        for (int test = 0; test < 5; test++) {
            forge.addTest(owners[test], 10 + test);
        }
        for (int owner = 0; owner < 3; owner++) {
            forge.fund(owner, 300 + owner);
        }
        Forges.release(forge, 0);
        forge.publish(0);
        Forges.releaseWithFace(forge, 0, 9);
        forge.setSource(0, 1, 2);
        forge.compile(0);
        forge.test(0);
        forge.need(1, 0, 100, 199);
        Forges.release(forge, 1);
        forge.need(2, 0, 100, 150);
        forge.need(2, 1, 100, 999);
        Forges.release(forge, 2);
        forge.yank(0, 101);
        forge.relock(1, 100);
        forge.test(1);
        forge.test(2);
        forge.need(3, 2, 100, 999);
        forge.compile(3);
        forge.test(3);
        forge.need(4, 3, 100, 999);
        forge.need(4, 0, 100, 999);
        forge.setFailing(1, true);
        forge.setFailing(3, true);
        return forge;
    }

    /** As busy, with a sixth package. */
    static PackageForge allPackages() {
        PackageForge forge = busy();
        forge.addPackage(2);
        forge.setSource(5, 6, 7);
        return forge;
    }

    /** As busy, with eight tests. */
    static PackageForge allTests() {
        PackageForge forge = busy();
        forge.addTest(2, 60);
        forge.addTest(3, 1);
        forge.addTest(4, 30);
        return forge;
    }

    /** 0 has 100 to 900, 1 has the other eleven of the 20; both could be published but for that. */
    static PackageForge allReleases() {
        PackageForge forge = allReleasesButOne();
        forge.publish(1);
        return forge;
    }

    static PackageForge allReleasesButOne() {
        PackageForge forge = of(3);
        for (int face = 9; face > 0; face--) {
            forge.setSource(0, face, 2);
            Forges.release(forge, 0);
        }
        forge.need(1, 0, 100, 999);
        for (int i = 0; i < 10; i++) {
            Forges.release(forge, 1);
        }
        return forge;
    }

    /** The last release of 0 is 900 with another interface, so the next one would be 1000. */
    static PackageForge beyond999() {
        PackageForge forge = of(2);
        for (int face = 10; face > 1; face--) {
            forge.setSource(0, face, 2);
            Forges.release(forge, 0);
        }
        forge.setSource(0, 1, 2);
        forge.compile(0);
        forge.test(0);
        return forge;
    }
}
