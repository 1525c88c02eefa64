/** Promises 6 and 7: chosen, chosenByAll; each answer is asked of both. */
final class ChoicesTest {
    static void run(Expect expect) {
        refusals(expect);
        notReached(expect);
        greatestPackageFirst(expect);
        backtracking(expect);
        triedAndLeft(expect);
        needsOfChosenReleases(expect);
        notReachedCountsLess(expect);
        allNeedsCount(expect);
        yankedIsNotChosen(expect);
        sourceOfOthersDoesNotCount(expect);
    }

    private static void both(Expect expect, String what, Object due, PackageForge forge, int number, int other) {
        expect.equal(what + ", chosen", due, () -> forge.chosen(number, other));
        expect.equal(what + ", chosenByAll", due, () -> forge.chosenByAll(number, other));
    }

    private static void refusals(Expect expect) {
        PackageForge forge = Forges.withPackages(2);
        forge.need(1, 0, 100, 999);
        int[][] wrong = {{-1, 0}, {2, 0}, {1, -1}, {1, 2}, {Integer.MAX_VALUE, Integer.MIN_VALUE}};
        for (int[] pair : wrong) {
            both(expect, "no such package", IndexOutOfBoundsException.class, forge, pair[0], pair[1]);
        }
        both(expect, "no choice", UnsupportedOperationException.class, forge, 1, 0);
        both(expect, "no choice, for itself too", UnsupportedOperationException.class, forge, 1, 1);
        both(expect, "nothing needed", 0, forge, 0, 0);
    }

    private static void notReached(Expect expect) {
        PackageForge forge = Forges.withThreeReleases(3);
        both(expect, "not needed", 0, forge, 1, 0);
        forge.need(1, 0, 100, 999);
        both(expect, "itself", 0, forge, 1, 1);
        both(expect, "a greater one", 0, forge, 1, 2);
        both(expect, "the lower one", 200, forge, 1, 0);
        both(expect, "another source's need", 0, forge, 2, 0);
    }

    /** 1 at 101 admits 0 at 100 alone; 1 at 100 would admit 0 at 200. */
    private static PackageForge withRivals() {
        PackageForge forge = Forges.withThreeReleases(4);
        forge.need(1, 0, 200, 299);
        Forges.release(forge, 1);
        forge.need(1, 0, 100, 100);
        Forges.release(forge, 1);
        return forge;
    }

    private static void greatestPackageFirst(Expect expect) {
        PackageForge forge = withRivals();
        forge.need(2, 0, 100, 999);
        forge.need(2, 1, 100, 999);
        both(expect, "the greatest package has its greatest", 101, forge, 2, 1);
        both(expect, "the lower one has what is left", 100, forge, 2, 0);
        forge.need(2, 1, 100, 100);
        both(expect, "the lower one's greatest", 200, forge, 2, 0);
    }

    private static void backtracking(Expect expect) {
        PackageForge forge = withRivals();
        forge.need(2, 0, 101, 999);
        forge.need(2, 1, 100, 999);
        both(expect, "the greatest one that leaves a choice", 100, forge, 2, 1);
        both(expect, "the one that is left", 200, forge, 2, 0);
        forge.need(2, 0, 101, 199);
        both(expect, "none is left", UnsupportedOperationException.class, forge, 2, 0);
        both(expect, "none is left", UnsupportedOperationException.class, forge, 2, 1);
    }

    /** 3 at 101 reaches 2, whose need of 0 cannot be met; 3 at 100 does not reach it. */
    private static void triedAndLeft(Expect expect) {
        PackageForge forge = Forges.withThreeReleases(5);
        Forges.release(forge, 1);
        forge.need(2, 0, 200, 200);
        forge.need(2, 1, 100, 100);
        Forges.release(forge, 2);
        Forges.release(forge, 3);
        forge.need(3, 2, 100, 999);
        Forges.release(forge, 3);
        forge.need(4, 3, 100, 999);
        forge.need(4, 0, 100, 199);
        both(expect, "the older one", 100, forge, 4, 3);
        both(expect, "what was tried is left out again", 0, forge, 4, 2);
        both(expect, "and what it needed", 0, forge, 4, 1);
        both(expect, "the greatest one for the source", 101, forge, 4, 0);
        forge.need(4, 0, 200, 200);
        both(expect, "the greater one, once 0 fits", 101, forge, 4, 3);
        both(expect, "reached then", 100, forge, 4, 2);
        both(expect, "reached over it", 100, forge, 4, 1);
    }

    private static void needsOfChosenReleases(Expect expect) {
        PackageForge forge = withRivals();
        forge.need(2, 1, 100, 999);
        both(expect, "reached over the release of 1", 100, forge, 2, 0);
        Forges.release(forge, 2);
        forge.need(3, 2, 100, 999);
        both(expect, "reached over two releases", 100, forge, 3, 0);
        both(expect, "reached over one release", 101, forge, 3, 1);
        both(expect, "needed", 100, forge, 3, 2);
        forge.dropNeed(2, 1);
        Forges.release(forge, 2);
        both(expect, "the greater release needs none", 101, forge, 3, 2);
        both(expect, "so 1 is not reached", 0, forge, 3, 1);
        both(expect, "nor is 0", 0, forge, 3, 0);
    }

    /** Both releases of 2 are in the range, and only the older one reaches 1. */
    private static void notReachedCountsLess(Expect expect) {
        PackageForge forge = Forges.withPackages(5);
        Forges.release(forge, 0);
        Forges.release(forge, 1);
        forge.need(2, 1, 100, 100);
        Forges.release(forge, 2);
        forge.dropNeed(2, 1);
        forge.need(3, 2, 100, 100);
        Forges.release(forge, 3);
        forge.dropNeed(3, 2);
        Forges.release(forge, 3);
        forge.need(4, 3, 100, 999);
        both(expect, "the greatest package decides", 101, forge, 4, 3);
        both(expect, "and not how many are reached", 0, forge, 4, 2);
        forge.yank(3, 101);
        both(expect, "now 2 is reached", 100, forge, 4, 2);
        both(expect, "and 1 over it", 100, forge, 4, 1);
        both(expect, "0 is not", 0, forge, 4, 0);
    }

    private static void allNeedsCount(Expect expect) {
        PackageForge forge = Forges.withThreeReleases(4);
        forge.need(1, 0, 100, 101);
        Forges.release(forge, 1);
        forge.need(2, 0, 101, 999);
        Forges.release(forge, 2);
        forge.need(3, 1, 100, 999);
        forge.need(3, 2, 100, 999);
        both(expect, "in the ranges of both releases", 101, forge, 3, 0);
        forge.need(3, 0, 100, 100);
        both(expect, "in no version for all three", UnsupportedOperationException.class, forge, 3, 0);
        forge.need(3, 0, 101, 101);
        both(expect, "in the ranges of all three", 101, forge, 3, 0);
    }

    private static void yankedIsNotChosen(Expect expect) {
        PackageForge forge = Forges.withThreeReleases(2);
        forge.need(1, 0, 100, 999);
        forge.yank(0, 200);
        both(expect, "the next one", 101, forge, 1, 0);
        forge.yank(0, 100);
        both(expect, "the one in the middle", 101, forge, 1, 0);
        forge.yank(0, 101);
        both(expect, "all yanked", UnsupportedOperationException.class, forge, 1, 0);
    }

    /** A release keeps the needs that it was made with. */
    private static void sourceOfOthersDoesNotCount(Expect expect) {
        PackageForge forge = Forges.withThreeReleases(3);
        forge.need(1, 0, 100, 100);
        Forges.release(forge, 1);
        forge.need(1, 0, 200, 200);
        forge.need(2, 1, 100, 999);
        both(expect, "the release's range", 100, forge, 2, 0);
        forge.dropNeed(1, 0);
        both(expect, "the release's need", 100, forge, 2, 0);
        forge.relock(1, 100);
        both(expect, "locks do not bind the choice", 100, forge, 2, 0);
    }
}
