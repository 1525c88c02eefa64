/** Boundary cases of promises 6 and 7, and what the terms say of choices; both methods are asked. */
final class ChoiceBoundsTest {
    private static final Class<? extends RuntimeException> NONE = UnsupportedOperationException.class;

    private final Bounds bounds;
    private PackageForge forge;

    private ChoiceBoundsTest(Bounds bounds) {
        this.bounds = bounds;
    }

    static void run(Bounds bounds) {
        ChoiceBoundsTest test = new ChoiceBoundsTest(bounds);
        test.nothingNeeded();
        test.reachedOverNeeds();
        test.reachedByWhatWasTried();
        test.endsOfRanges();
        test.rangesOfSeveral();
        test.yankedOnes();
        test.greatestOfSeveral();
        test.nextLowerOne();
        test.lastWayThatIsTried();
        test.ofNoPackage("Promise 6", PackageForge::chosen);
        test.ofNoPackage("Promise 7", PackageForge::chosenByAll);
        test.withoutChoice("Promise 6", PackageForge::chosen);
        test.withoutChoice("Promise 7", PackageForge::chosenByAll);
    }

    private interface Question {
        int ask(PackageForge forge, int number, int other);
    }

    private void both(String what, Object due, int number, int other) {
        bounds.due(what + ", by the search", due, () -> forge.chosen(number, other));
        bounds.due(what + ", by all ways", due, () -> forge.chosenByAll(number, other));
    }

    private void sentenceOfBoth(String words) {
        bounds.sentence("Promise 6", words);
        bounds.alsoSentence("Promise 7", words);
    }

    private void nothingNeeded() {
        sentenceOfBoth("Returns the version, or 0 if the other package is not reached.");
        forge = Forges.withPackages(6);
        both("the least package, itself", 0, 0, 0);
        both("the greatest package, itself", 0, 5, 5);
        both("a lower one without releases", 0, 5, 0);
        both("a greater one", 0, 0, 5);
        Forges.release(forge, 0);
        both("a lower one with a release", 0, 5, 0);
        forge.need(5, 0, 100, 999);
        both("the only one that is reached", 100, 5, 0);
        both("one between", 0, 5, 4);
    }

    private void reachedOverNeeds() {
        bounds.sentence("Terms", "A choice for a package has a release for each package that is reached over needs:"
                + " those that the package's source needs, and those that the chosen releases need.");
        forge = Forges.withPackages(6);
        Forges.release(forge, 0);
        for (int number = 1; number < 5; number++) {
            forge.need(number, number - 1, 100, 999);
            Forges.release(forge, number);
        }
        forge.need(5, 4, 100, 999);
        for (int other = 4; other >= 0; other--) {
            both("reached over " + (5 - other) + " needs", 100, 5, other);
        }
        forge.dropNeed(1, 0);
        both("the source of a needed one does not count", 100, 5, 0);
        Forges.release(forge, 1);
        both("the greater release is chosen", 101, 5, 1);
        both("and needs none", 0, 5, 0);
    }

    /** 3 at 101 reaches 2, whose need of 0 leaves no choice; 3 at 100 does not reach it. */
    private void reachedByWhatWasTried() {
        sentenceOfBoth("Returns the version, or 0 if the other package is not reached.");
        forge = Forges.withThreeReleases(5);
        Forges.release(forge, 1);
        forge.need(2, 0, 200, 200);
        forge.need(2, 1, 100, 100);
        Forges.release(forge, 2);
        Forges.release(forge, 3);
        forge.need(3, 2, 100, 999);
        Forges.release(forge, 3);
        forge.need(4, 3, 100, 999);
        forge.need(4, 0, 100, 199);
        both("the version that leaves a choice", 100, 4, 3);
        both("reached by the other version alone", 0, 4, 2);
        both("reached over that one alone", 0, 4, 1);
        both("needed by the source", 101, 4, 0);
    }

    private void endsOfRanges() {
        bounds.sentence("Terms", "Each chosen release is not yanked, and its version is in the ranges of all these"
                + " needs of its package.");
        forge = Forges.withThreeReleases(2);
        int[][] rows = {{100, 100, 100}, {101, 101, 101}, {200, 200, 200}, {100, 101, 101}, {101, 200, 200},
                {100, 199, 101}, {200, 999, 200}, {102, 200, 200}, {100, 999, 200}};
        for (int[] row : rows) {
            forge.need(1, 0, row[0], row[1]);
            both(row[0] + " to " + row[1], row[2], 1, 0);
        }
        for (int[] row : new int[][] {{102, 199}, {201, 999}, {201, 201}, {199, 199}, {102, 102}, {999, 999}}) {
            forge.need(1, 0, row[0], row[1]);
            both(row[0] + " to " + row[1], NONE, 1, 0);
        }
    }

    private void rangesOfSeveral() {
        bounds.sentence("Terms", "Each chosen release is not yanked, and its version is in the ranges of all these"
                + " needs of its package.");
        forge = Forges.withThreeReleases(4);
        forge.need(1, 0, 100, 101);
        Forges.release(forge, 1);
        forge.need(2, 0, 101, 200);
        Forges.release(forge, 2);
        forge.need(3, 2, 100, 100);
        forge.need(3, 1, 100, 100);
        both("where one range ends and the other begins", 101, 3, 0);
        forge.need(3, 0, 100, 100);
        both("in the source's range and one more", NONE, 3, 0);
        forge.need(3, 0, 200, 200);
        both("in the source's range and the other one", NONE, 3, 0);
        forge.dropNeed(3, 1);
        both("with one need less", 200, 3, 0);
    }

    private void yankedOnes() {
        bounds.sentence("Terms", "Each chosen release is not yanked, and its version is in the ranges of all these"
                + " needs of its package.");
        forge = Forges.withThreeReleases(2);
        forge.need(1, 0, 100, 999);
        forge.yank(0, 200);
        both("the greatest one is yanked", 101, 1, 0);
        forge.yank(0, 101);
        both("the next one too", 100, 1, 0);
        forge.yank(0, 100);
        both("no one is left", NONE, 1, 0);
        both("no one is left, whatever is asked for", NONE, 1, 1);
        bounds.due("a new one", 201, () -> forge.publish(0));
        both("the new one", 201, 1, 0);
    }

    /** 1 at 101 needs 0 at 100, and 1 at 100 needs 0 at 200. */
    private static PackageForge withRivals() {
        PackageForge rivals = Forges.withThreeReleases(4);
        rivals.need(1, 0, 200, 200);
        Forges.release(rivals, 1);
        rivals.need(1, 0, 100, 100);
        Forges.release(rivals, 1);
        return rivals;
    }

    private static final String OF_SEVERAL = "Of several choices, the one counts in which the reached package with"
            + " the greatest number has the greatest version; of several, the one in which the next lower package"
            + " does, and so on; a package that is not reached counts as less than each version.";

    private void greatestOfSeveral() {
        bounds.sentence("Terms", OF_SEVERAL);
        forge = withRivals();
        forge.need(2, 1, 100, 999);
        both("the greatest package has its greatest version", 101, 2, 1);
        both("the lower one has a lower version for it", 100, 2, 0);
        forge.need(2, 0, 101, 999);
        both("the greatest version leaves no choice", 100, 2, 1);
        both("the lower one has a greater version then", 200, 2, 0);
        forge.need(2, 0, 101, 199);
        both("no version leaves a choice", NONE, 2, 1);
    }

    /** Package 2 has one release without a need and one that needs 1; both are in the range. */
    private void nextLowerOne() {
        bounds.sentence("Terms", OF_SEVERAL);
        forge = withRivals();
        forge.need(2, 1, 100, 999);
        Forges.release(forge, 2);
        forge.dropNeed(2, 1);
        Forges.release(forge, 2);
        forge.need(3, 2, 100, 999);
        both("the greater version, though it reaches no other one", 101, 3, 2);
        both("not reached over it", 0, 3, 1);
        both("nor over that one", 0, 3, 0);
        forge.need(3, 2, 100, 100);
        both("the lower version", 100, 3, 2);
        both("the next lower package has its greatest version", 101, 3, 1);
        both("the lowest one has what is left", 100, 3, 0);
    }

    /** 20 releases; 1 to 4 at 100 + k need the one below at 100 + k. */
    private void lastWayThatIsTried() {
        bounds.sentence("Promise 6", "Returns the version of another package in the choice for a source, found by a"
                + " search from the greatest package down.");
        bounds.alsoSentence("Promise 7", "Returns the same version, found by going through all ways to take a release"
                + " of each package, or none.");
        forge = Forges.withPackages(6);
        for (int version = 100; version < 104; version++) {
            Forges.release(forge, 0);
        }
        for (int number = 1; number < 5; number++) {
            for (int version = 100; version < 104; version++) {
                forge.need(number, number - 1, version, version);
                Forges.release(forge, number);
            }
        }
        forge.need(5, 4, 100, 999);
        for (int version = 103; version >= 100; version--) {
            forge.need(5, 0, version, version);
            for (int other = 0; other < 5; other++) {
                both("all at " + version, version, 5, other);
            }
        }
        forge.need(5, 0, 100, 999);
        both("the first way that is tried", 103, 5, 0);
        forge.need(5, 3, 100, 102);
        both("not the first one", 102, 5, 4);
        forge.need(5, 0, 103, 999);
        both("no way is left", NONE, 5, 4);
    }

    private void ofNoPackage(String promise, Question question) {
        bounds.sentence(promise, "`number`: the number of the package", "`other`: the number of the other package",
                "Throws `IndexOutOfBoundsException` if there is no such package, for either");
        PackageForge busy = States.busy();
        bounds.due("the greatest number", 100, () -> question.ask(busy, 3, 2));
        bounds.due("the least number", 0, () -> question.ask(busy, 0, 4));
        for (int number : Bounds.outside(0, 4)) {
            bounds.refused("package " + number, IndexOutOfBoundsException.class, States::busy,
                    each -> question.ask(each, number, 0));
            bounds.refused("other " + number, IndexOutOfBoundsException.class, States::busy,
                    each -> question.ask(each, 2, number));
        }
    }

    private void withoutChoice(String promise, Question question) {
        bounds.sentence(promise, "Throws `UnsupportedOperationException` if there is no choice");
        for (int i = 0; i < 5; i++) {
            int other = i;
            bounds.refused("a needed one has no release, " + other, NONE, States::busy,
                    each -> question.ask(each, 4, other));
        }
        bounds.refused("no release is in the range", NONE, ChoiceBoundsTest::withEmptyRange,
                each -> question.ask(each, 1, 0));
        bounds.refused("a release that is reached has an empty range", NONE, ChoiceBoundsTest::withEmptyRange,
                each -> question.ask(each, 2, 0));
    }

    /** All releases of 0 that 1 at 100 admits are yanked, and the source of 1 admits none. */
    private static PackageForge withEmptyRange() {
        PackageForge busy = States.busy();
        busy.yank(0, 100);
        busy.need(1, 0, 201, 999);
        busy.dropNeed(2, 0);
        return busy;
    }
}
