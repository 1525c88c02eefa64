import java.util.LinkedHashMap;
import java.util.Map;

/** Boundary cases of promises 1 to 5, and what the terms say of packages. */
final class PackageBoundsTest {
    private final Bounds bounds;

    private PackageBoundsTest(Bounds bounds) {
        this.bounds = bounds;
    }

    static void run(Bounds bounds) {
        PackageBoundsTest test = new PackageBoundsTest(bounds);
        test.newObject();
        test.mostPackages();
        test.owners();
        test.seventhPackage();
        test.sourceAtFirst();
        test.interfaces();
        test.bodies();
        test.sourceOfNoPackage();
        test.sourceOutOfRange();
        test.mostNeeds();
        test.needInPlace();
        test.needOfNoPackage();
        test.needOutOfRange();
        test.leastVersions();
        test.greatestVersions();
        test.dropLastNeed();
        test.dropOfNoPackage();
        test.dropWithoutNeed();
    }

    private void newObject() {
        bounds.sentence("Promise 1", "Creates a forge without packages, with 1 machine.");
        for (Map.Entry<String, Bounds.On> call : callsOnPackages().entrySet()) {
            bounds.refused(call.getKey(), IndexOutOfBoundsException.class, PackageForge::new, call.getValue());
        }
        bounds.due("the first package is 0", 0, () -> new PackageForge().addPackage(0));
        bounds.due("no times", 0, () -> new PackageForge().compiled());
        bounds.due("1 machine", 1, () -> new PackageForge().setMachines(4));
        PackageForge forge = States.of(1);
        forge.addTest(0, 10);
        forge.addTest(0, 20);
        bounds.due("the tests wait for the only machine", 30, () -> forge.testTime(0));
    }

    /** A call of each method that takes a package's number. */
    private static Map<String, Bounds.On> callsOnPackages() {
        Map<String, Bounds.On> calls = new LinkedHashMap<>();
        calls.put("setSource", forge -> forge.setSource(0, 0, 0));
        calls.put("need", forge -> forge.need(0, 0, 100, 999));
        calls.put("dropNeed", forge -> forge.dropNeed(0, 0));
        calls.put("chosen", forge -> forge.chosen(0, 0));
        calls.put("chosenByAll", forge -> forge.chosenByAll(0, 0));
        calls.put("compile", forge -> forge.compile(0));
        calls.put("addTest", forge -> forge.addTest(0, 1));
        calls.put("testTime", forge -> forge.testTime(0));
        calls.put("test", forge -> forge.test(0));
        calls.put("canPublish", forge -> forge.canPublish(0));
        calls.put("nextVersion", forge -> forge.nextVersion(0));
        calls.put("publish", forge -> forge.publish(0));
        calls.put("yank", forge -> forge.yank(0, 100));
        calls.put("isStale", forge -> forge.isStale(0, 100));
        calls.put("relock", forge -> forge.relock(0, 100));
        calls.put("locked", forge -> forge.locked(0, 100, 0));
        return calls;
    }

    private void mostPackages() {
        bounds.sentence("Terms", "At most 6 packages are numbered from 0.");
        bounds.alsoSentence("Promise 2", "Adds a package.", "Returns the number of the package.");
        PackageForge forge = new PackageForge();
        for (int i = 0; i < 6; i++) {
            int number = i;
            bounds.refused("package " + i + " is not there yet", IndexOutOfBoundsException.class,
                    () -> Forges.withPackages(number), each -> each.nextVersion(number));
            bounds.due("package " + i, number, () -> forge.addPackage(0));
            bounds.due("package " + i + " is there", 100, () -> forge.nextVersion(number));
        }
        bounds.due("no package 6", IndexOutOfBoundsException.class, () -> forge.nextVersion(6));
    }

    private void owners() {
        bounds.sentence("Promise 2", "`owner`: its owner, 0 to 2",
                "Throws `IllegalArgumentException` if there is no such owner");
        for (int i = 0; i <= 2; i++) {
            int owner = i;
            PackageForge forge = new PackageForge();
            bounds.due("owner " + i, 0, () -> forge.addPackage(owner));
            forge.addTest(0, 5);
            forge.compile(0);
            forge.fund(owner, 5);
            bounds.due("owner " + i + " pays", 0, () -> forge.test(0));
        }
        for (int owner : Bounds.outside(0, 2)) {
            bounds.refused("owner " + owner, IllegalArgumentException.class, States::busy,
                    forge -> forge.addPackage(owner));
        }
    }

    private void seventhPackage() {
        bounds.sentence("Promise 2", "Throws `IllegalStateException` if there are 6 packages");
        PackageForge forge = States.busy();
        bounds.due("the sixth is taken", 5, () -> forge.addPackage(2));
        for (int i = 0; i <= 2; i++) {
            int owner = i;
            bounds.refused("the seventh is not", IllegalStateException.class, States::allPackages,
                    full -> full.addPackage(owner));
        }
    }

    private void sourceAtFirst() {
        bounds.sentence("Terms", "A package has an owner from 0 to 2 and a source, which is an interface and a body,"
                + " each a number from 0 to 999, at first 0.");
        for (int i = 0; i < 6; i++) {
            int number = i;
            PackageForge forge = Forges.withPackages(6);
            bounds.due("both are 0", 0, () -> forge.setSource(number, 0, 0));
            bounds.due("both are 0 no more", 2, () -> forge.setSource(number, 1, 1));
        }
    }

    private void interfaces() {
        bounds.sentence("Promise 3", "Changes the source of a package.", "`face`: the interface, 0 to 999",
                "Returns how many of both differ from those before.");
        PackageForge forge = Forges.withPackages(2);
        bounds.due("999 is taken", 1, () -> forge.setSource(0, 999, 0));
        bounds.due("and stands", 0, () -> forge.setSource(0, 999, 0));
        bounds.due("0 is taken", 1, () -> forge.setSource(0, 0, 0));
        bounds.due("998 is another one than 999", 1, () -> forge.setSource(0, 998, 0));
        bounds.due("the other package's stays", 0, () -> forge.setSource(1, 0, 0));
    }

    private void bodies() {
        bounds.sentence("Promise 3", "Changes the source of a package.", "`body`: the body, 0 to 999",
                "Returns how many of both differ from those before.");
        PackageForge forge = Forges.withPackages(2);
        bounds.due("999 is taken", 1, () -> forge.setSource(0, 0, 999));
        bounds.due("and stands", 0, () -> forge.setSource(0, 0, 999));
        bounds.due("0 is taken", 1, () -> forge.setSource(0, 0, 0));
        bounds.due("both at once", 2, () -> forge.setSource(0, 999, 999));
        bounds.due("the other package's stays", 0, () -> forge.setSource(1, 0, 0));
    }

    private void sourceOfNoPackage() {
        bounds.sentence("Promise 3", "`number`: the number of the package",
                "Throws `IndexOutOfBoundsException` if there is no such package");
        PackageForge busy = States.busy();
        bounds.due("the least number", 0, () -> busy.setSource(0, 1, 2));
        bounds.due("the greatest number", 0, () -> busy.setSource(4, 5, 6));
        for (int number : Bounds.outside(0, 4)) {
            bounds.refused("package " + number, IndexOutOfBoundsException.class, States::busy,
                    forge -> forge.setSource(number, 0, 0));
        }
    }

    private void sourceOutOfRange() {
        bounds.sentence("Promise 3", "Throws `IllegalArgumentException` if a number is out of range");
        for (int sign : Bounds.outside(0, 999)) {
            bounds.refused("interface " + sign, IllegalArgumentException.class, States::busy,
                    forge -> forge.setSource(0, sign, 7));
            bounds.refused("body " + sign, IllegalArgumentException.class, States::busy,
                    forge -> forge.setSource(0, 7, sign));
            bounds.refused("both " + sign, IllegalArgumentException.class, States::busy,
                    forge -> forge.setSource(0, sign, sign));
        }
    }

    private void mostNeeds() {
        bounds.sentence("Terms", "A package can need packages with lower numbers, each in a range from a least to a"
                + " greatest version, from 100 to 999.");
        bounds.alsoSentence("Promise 4", "Returns the number of packages that it needs.");
        PackageForge forge = Forges.withPackages(6);
        for (int i = 0; i < 5; i++) {
            int other = i;
            bounds.due("need " + (i + 1), other + 1, () -> forge.need(5, other, 100, 999));
        }
        bounds.due("package 1 can need 0", 1, () -> forge.need(1, 0, 100, 999));
        for (int i = 0; i < 6; i++) {
            int other = i;
            bounds.due("package 0 needs none", IllegalArgumentException.class,
                    () -> forge.need(0, other, 100, 999));
        }
    }

    private void needInPlace() {
        bounds.sentence("Promise 4", "Makes the source of a package need another one, in place of such a need.");
        PackageForge forge = Forges.withThreeReleases(2);
        bounds.due("one", 1, () -> forge.need(1, 0, 100, 999));
        bounds.due("the greatest", 200, () -> forge.chosen(1, 0));
        bounds.due("still one", 1, () -> forge.need(1, 0, 100, 199));
        bounds.due("a lower greatest version", 101, () -> forge.chosen(1, 0));
        bounds.due("the same need", 1, () -> forge.need(1, 0, 100, 199));
        bounds.due("a greater least version", 1, () -> forge.need(1, 0, 102, 999));
        bounds.due("the old range is gone", 200, () -> forge.chosen(1, 0));
        bounds.due("none is left after one drop", 0, () -> forge.dropNeed(1, 0));
    }

    private void needOfNoPackage() {
        bounds.sentence("Promise 4", "`number`: the number of the package", "`other`: the number of the other package",
                "Throws `IndexOutOfBoundsException` if there is no such package, for either");
        PackageForge forge = States.busy();
        bounds.due("the greatest number and the one below it", 2, () -> forge.need(4, 3, 100, 999));
        bounds.due("and the least one", 2, () -> forge.need(4, 0, 100, 999));
        for (int number : Bounds.outside(0, 4)) {
            bounds.refused("package " + number, IndexOutOfBoundsException.class, States::busy,
                    busy -> busy.need(number, 0, 100, 999));
            bounds.refused("other " + number, IndexOutOfBoundsException.class, States::busy,
                    busy -> busy.need(2, number, 100, 999));
        }
    }

    private void needOutOfRange() {
        bounds.sentence("Promise 4",
                "Throws `IllegalArgumentException` if the other number is not lower, or a version is out of range");
        for (int i = 0; i < 5; i++) {
            int number = i;
            bounds.refused("itself, " + i, IllegalArgumentException.class, States::busy,
                    forge -> forge.need(number, number, 100, 999));
        }
        bounds.refused("the next one", IllegalArgumentException.class, States::busy,
                forge -> forge.need(3, 4, 100, 999));
        bounds.refused("the greatest one", IllegalArgumentException.class, States::busy,
                forge -> forge.need(0, 4, 100, 999));
    }

    private void leastVersions() {
        bounds.sentence("Promise 4", "`least`: the least version, 100 to 999",
                "Throws `IllegalArgumentException` if the other number is not lower, or a version is out of range");
        PackageForge forge = States.busy();
        bounds.due("100", 2, () -> forge.need(2, 0, 100, 500));
        bounds.due("999", 2, () -> forge.need(2, 0, 999, 999));
        for (int least : Bounds.outside(100, 999)) {
            bounds.refused("least " + least, IllegalArgumentException.class, States::busy,
                    busy -> busy.need(2, 0, least, 999));
            bounds.refused("least and greatest " + least, IllegalArgumentException.class, States::busy,
                    busy -> busy.need(2, 0, least, least));
        }
    }

    private void greatestVersions() {
        bounds.sentence("Promise 4", "`greatest`: the greatest version, from the least one to 999",
                "Throws `IllegalArgumentException` if the other number is not lower, or a version is out of range");
        PackageForge forge = States.busy();
        bounds.due("the least one, 100", 2, () -> forge.need(2, 0, 100, 100));
        bounds.due("the least one, 500", 2, () -> forge.need(2, 0, 500, 500));
        bounds.due("999", 2, () -> forge.need(2, 0, 500, 999));
        for (int greatest : Bounds.outside(500, 999)) {
            bounds.refused("500 to " + greatest, IllegalArgumentException.class, States::busy,
                    busy -> busy.need(2, 0, 500, greatest));
        }
        bounds.refused("100 to 99", IllegalArgumentException.class, States::busy,
                busy -> busy.need(2, 0, 100, 99));
    }

    private void dropLastNeed() {
        bounds.sentence("Promise 5", "Ends that the source of a package needs another one.",
                "Returns the number of packages that it needs.");
        PackageForge forge = Forges.withPackages(6);
        for (int other = 0; other < 5; other++) {
            forge.need(5, other, 100, 999);
        }
        for (int i = 0; i < 5; i++) {
            int other = i;
            bounds.due("without releases there is no choice", UnsupportedOperationException.class,
                    () -> forge.chosen(5, other));
            bounds.due("after need " + i, 4 - other, () -> forge.dropNeed(5, other));
        }
        bounds.due("it needs none", 0, () -> forge.chosen(5, 4));
    }

    private void dropOfNoPackage() {
        bounds.sentence("Promise 5", "`number`: the number of the package", "`other`: the number of the other package",
                "Throws `IndexOutOfBoundsException` if there is no such package, for either");
        PackageForge forge = States.busy();
        bounds.due("the greatest number and the least one", 1, () -> forge.dropNeed(4, 0));
        for (int number : Bounds.outside(0, 4)) {
            bounds.refused("package " + number, IndexOutOfBoundsException.class, States::busy,
                    busy -> busy.dropNeed(number, 0));
            bounds.refused("other " + number, IndexOutOfBoundsException.class, States::busy,
                    busy -> busy.dropNeed(2, number));
        }
    }

    private void dropWithoutNeed() {
        bounds.sentence("Promise 5", "Throws `NoSuchElementException` if it does not need it");
        Class<? extends RuntimeException> missing = java.util.NoSuchElementException.class;
        bounds.refused("never needed", missing, States::busy, forge -> forge.dropNeed(3, 0));
        bounds.refused("reached only", missing, States::busy, forge -> forge.dropNeed(3, 1));
        bounds.refused("itself", missing, States::busy, forge -> forge.dropNeed(2, 2));
        bounds.refused("the least package", missing, States::busy, forge -> forge.dropNeed(0, 0));
        bounds.refused("a greater one", missing, States::busy, forge -> forge.dropNeed(2, 4));
        bounds.refused("dropped already", missing, PackageBoundsTest::withDroppedNeed,
                forge -> forge.dropNeed(2, 0));
    }

    private static PackageForge withDroppedNeed() {
        PackageForge forge = States.busy();
        forge.dropNeed(2, 0);
        return forge;
    }
}
