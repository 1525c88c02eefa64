/** Forges in states that several tests start from. */
final class Forges {
    private Forges() {
    }

    /** A forge with packages of owners 0, 1, 2, 0, 1, 2. */
    static PackageForge withPackages(int count) {
        PackageForge forge = new PackageForge();
        for (int i = 0; i < count; i++) {
            forge.addPackage(i % 3);
        }
        return forge;
    }

    /** Compiles, tests and publishes a package without paying for more than it has. */
    static int release(PackageForge forge, int number) {
        forge.compile(number);
        forge.test(number);
        return forge.publish(number);
    }

    /** Publishes a package with another interface, so that its version is a multiple of 100. */
    static int releaseWithFace(PackageForge forge, int number, int face) {
        forge.setSource(number, face, 0);
        return release(forge, number);
    }

    /** Package 0 has the releases 100, 101 and 200; package 1 needs none. */
    static PackageForge withThreeReleases(int packages) {
        PackageForge forge = withPackages(packages);
        release(forge, 0);
        release(forge, 0);
        releaseWithFace(forge, 0, 1);
        return forge;
    }
}
