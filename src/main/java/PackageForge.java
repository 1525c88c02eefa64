import java.util.ArrayList;
import java.util.Arrays;
import java.util.NoSuchElementException;

/**
 * A forge of packages: sources that need other packages in ranges of versions, versions that are
 * chosen together, compiling, tests on machines that owners pay, and releases.
 */
public final class PackageForge {
    private static final int MOST_PACKAGES = 6;
    private static final int OWNERS = 3;
    private static final int MOST_RELEASES = 20;
    private static final int MOST_TESTS = 8;
    private static final int RECORD_LENGTH = 8;
    private static final int MOST_MACHINES = 4;
    private static final int GREATEST_LENGTH = 60;
    private static final int GREATEST_FUNDING = 9999;
    private static final int GREATEST_SIGN = 999;
    private static final int LEAST_VERSION = 100;
    private static final int GREATEST_VERSION = 999;
    private static final int VERSION_STEP = 100;
    private static final int NO_VERSION = 0;
    private static final int NO_FACE = -1;

    private final ArrayList<Pack> packs;
    private final ArrayList<Test> tests;
    private final ArrayList<Release> releases;
    private final Chooser chooser;
    private final int[] budgets;
    private final int[] freeAt;
    private int machineCount;
    private int compilings;
    private int testings;
    private int paidMinutes;

    public PackageForge() {
        packs = new ArrayList<>();
        tests = new ArrayList<>();
        releases = new ArrayList<>();
        chooser = new Chooser();
        budgets = new int[OWNERS];
        freeAt = new int[MOST_MACHINES];
        machineCount = 1;
    }

    // ---- packages and needs

    public int addPackage(int owner) throws IllegalArgumentException, IllegalStateException {
        checkOwner(owner);
        if (packs.size() >= MOST_PACKAGES) {
            throw new IllegalStateException("the forge has all its packages");
        }
        packs.add(new Pack(owner));
        return packs.size() - 1;
    }

    public int setSource(int number, int face, int body)
            throws IndexOutOfBoundsException, IllegalArgumentException {
        Source source = packAt(number).source;
        if (!isWithin(face, 0, GREATEST_SIGN) || !isWithin(body, 0, GREATEST_SIGN)) {
            throw new IllegalArgumentException("the interface or the body is out of range");
        }
        int changes = (source.face == face ? 0 : 1) + (source.body == body ? 0 : 1);
        source.face = face;
        source.body = body;
        return changes;
    }

    public int need(int number, int other, int least, int greatest)
            throws IndexOutOfBoundsException, IllegalArgumentException {
        Needs needs = packAt(number).source.needs;
        checkPackage(other);
        if (other >= number) {
            throw new IllegalArgumentException("only packages with lower numbers can be needed");
        }
        if (!isWithin(least, LEAST_VERSION, GREATEST_VERSION)
                || !isWithin(greatest, least, GREATEST_VERSION)) {
            throw new IllegalArgumentException("a version is out of range");
        }
        needs.put(other, least, greatest);
        return needs.count();
    }

    public int dropNeed(int number, int other)
            throws IndexOutOfBoundsException, NoSuchElementException {
        Needs needs = packAt(number).source.needs;
        checkPackage(other);
        if (!needs.has(other)) {
            throw new NoSuchElementException("the package does not need the other one");
        }
        needs.drop(other);
        return needs.count();
    }

    public int chosen(int number, int other)
            throws IndexOutOfBoundsException, UnsupportedOperationException {
        Needs needs = packAt(number).source.needs;
        checkPackage(other);
        return requireChoice(chooser.search(packs, number, needs)).versionOf(other);
    }

    public int chosenByAll(int number, int other)
            throws IndexOutOfBoundsException, UnsupportedOperationException {
        Needs needs = packAt(number).source.needs;
        checkPackage(other);
        return requireChoice(chooser.goThroughAll(packs, number, needs)).versionOf(other);
    }

    // ---- compiling and tests

    public boolean compile(int number)
            throws IndexOutOfBoundsException, UnsupportedOperationException {
        Pack pack = packAt(number);
        Choice choice = requireChoice(chooser.search(packs, number, pack.source.needs));
        if (pack.build.isOf(pack.source, choice)) {
            return false;
        }
        pack.build.remember(pack.source, choice);
        compilings++;
        return true;
    }

    public int compiled() {
        return compilings;
    }

    public int addTest(int number, int length)
            throws IndexOutOfBoundsException, IllegalArgumentException, IllegalStateException {
        checkPackage(number);
        if (!isWithin(length, 1, GREATEST_LENGTH)) {
            throw new IllegalArgumentException("the length is out of range");
        }
        if (tests.size() >= MOST_TESTS) {
            throw new IllegalStateException("the forge has all its tests");
        }
        tests.add(new Test(number, length));
        return tests.size() - 1;
    }

    public boolean setFailing(int test, boolean isFailing) throws IndexOutOfBoundsException {
        Test changed = testAt(test);
        boolean wasFailing = changed.isFailing;
        changed.isFailing = isFailing;
        return wasFailing;
    }

    public int setMachines(int machines) throws IllegalArgumentException {
        if (!isWithin(machines, 1, MOST_MACHINES)) {
            throw new IllegalArgumentException("the number of machines is out of range");
        }
        int before = machineCount;
        machineCount = machines;
        return before;
    }

    public int fund(int owner, int minutes) throws IllegalArgumentException {
        checkOwner(owner);
        if (!isWithin(minutes, 1, GREATEST_FUNDING)) {
            throw new IllegalArgumentException("the minutes are out of range");
        }
        budgets[owner] += minutes;
        return budgets[owner];
    }

    public int budget(int owner) throws IllegalArgumentException {
        checkOwner(owner);
        return budgets[owner];
    }

    public int testTime(int number) throws IndexOutOfBoundsException {
        checkPackage(number);
        Arrays.fill(freeAt, 0);
        int end = 0;
        for (int length = GREATEST_LENGTH; length > 0; length--) {
            for (int i = 0; i < tests.size(); i++) {
                Test test = tests.get(i);
                if (test.number == number && test.length == length) {
                    end = Math.max(end, placeOnFirstFree(length));
                }
            }
        }
        return end;
    }

    public int test(int number)
            throws IndexOutOfBoundsException, UnsupportedOperationException, IllegalStateException {
        Pack pack = packAt(number);
        Choice choice = requireChoice(chooser.search(packs, number, pack.source.needs));
        if (!pack.build.isOf(pack.source, choice)) {
            throw new IllegalStateException("the package has to be compiled first");
        }
        if (!payFrom(pack.owner, costOfTests(number))) {
            throw new IllegalStateException("the owner has too few minutes");
        }
        int failures = runTests(number);
        pack.trial.remember(failures == 0, pack.source, choice);
        return failures;
    }

    public int flaky(int test) throws IndexOutOfBoundsException {
        return testAt(test).countTurns();
    }

    public int flakiest() throws NoSuchElementException {
        if (tests.isEmpty()) {
            throw new NoSuchElementException("there are no tests");
        }
        int flakiest = 0;
        int mostTurns = -1;
        for (int i = 0; i < tests.size(); i++) {
            int turns = tests.get(i).countTurns();
            if (turns > mostTurns) {
                mostTurns = turns;
                flakiest = i;
            }
        }
        return flakiest;
    }

    // ---- releases

    public boolean canPublish(int number) throws IndexOutOfBoundsException {
        Pack pack = packAt(number);
        return pack.isPassedWith(chooser.search(packs, number, pack.source.needs));
    }

    public int nextVersion(int number) throws IndexOutOfBoundsException {
        return packAt(number).versionAhead();
    }

    public int publish(int number)
            throws IndexOutOfBoundsException, UnsupportedOperationException, IllegalStateException {
        Pack pack = packAt(number);
        Choice choice = requireChoice(chooser.search(packs, number, pack.source.needs));
        if (!pack.isPassedWith(choice)) {
            throw new UnsupportedOperationException("the source cannot be published");
        }
        int version = pack.versionAhead();
        if (version > GREATEST_VERSION) {
            throw new UnsupportedOperationException("the version would be too great");
        }
        if (releases.size() >= MOST_RELEASES) {
            throw new IllegalStateException("the forge has all its releases");
        }
        Release release = new Release(version, pack.source, choice);
        pack.releases.add(release);
        releases.add(release);
        return version;
    }

    public int yank(int number, int version)
            throws IndexOutOfBoundsException, NoSuchElementException, IllegalStateException {
        Release release = releaseAt(number, version);
        checkNotYanked(release);
        release.isYanked = true;
        return countStale();
    }

    public boolean isStale(int number, int version)
            throws IndexOutOfBoundsException, NoSuchElementException {
        return releaseAt(number, version).isOutdated();
    }

    public int relock(int number, int version)
            throws IndexOutOfBoundsException, NoSuchElementException, IllegalStateException,
            UnsupportedOperationException {
        Release release = releaseAt(number, version);
        checkNotYanked(release);
        Choice choice = requireChoice(chooser.search(packs, number, release.needs));
        int changes = release.lock.countDifferences(choice);
        release.lock.copyFrom(choice);
        return changes;
    }

    public int locked(int number, int version, int other)
            throws IndexOutOfBoundsException, NoSuchElementException {
        checkPackage(other);
        return releaseAt(number, version).lock.versionOf(other);
    }

    // ---- figures

    public float goodShare() throws ArithmeticException {
        if (releases.isEmpty()) {
            throw new ArithmeticException("there are no releases");
        }
        int good = 0;
        for (int i = 0; i < releases.size(); i++) {
            Release release = releases.get(i);
            if (!release.isYanked && !release.isOutdated()) {
                good++;
            }
        }
        return (float) good / (float) releases.size();
    }

    public double meanPaid() throws ArithmeticException {
        if (testings == 0) {
            throw new ArithmeticException("no package was tested");
        }
        return (double) paidMinutes / (double) testings;
    }

    // ---- what the calls look up and refuse

    private static boolean isWithin(int value, int least, int greatest) {
        return value >= least && value <= greatest;
    }

    private static boolean isPackageIndex(int index) {
        return index >= 0 && index < MOST_PACKAGES;
    }

    private static boolean isOwner(int owner) {
        return owner >= 0 && owner < OWNERS;
    }

    private static void checkOwner(int owner) {
        if (!isOwner(owner)) {
            throw new IllegalArgumentException("there is no such owner");
        }
    }

    private void checkPackage(int number) {
        if (number < 0 || number >= packs.size()) {
            throw new IndexOutOfBoundsException("there is no such package");
        }
    }

    private Pack packAt(int number) {
        checkPackage(number);
        return packs.get(number);
    }

    private Test testAt(int number) {
        if (number < 0 || number >= tests.size()) {
            throw new IndexOutOfBoundsException("there is no such test");
        }
        return tests.get(number);
    }

    private Release releaseAt(int number, int version) {
        Release release = packAt(number).releaseOf(version);
        if (release == null) {
            throw new NoSuchElementException("the package has no such release");
        }
        return release;
    }

    private static void checkNotYanked(Release release) {
        if (release.isYanked) {
            throw new IllegalStateException("the release is yanked");
        }
    }

    private static Choice requireChoice(Choice choice) {
        if (choice == null) {
            throw new UnsupportedOperationException("there is no choice");
        }
        return choice;
    }

    // ---- running tests

    private int placeOnFirstFree(int length) {
        int first = 0;
        for (int machine = 1; machine < machineCount && machine < freeAt.length; machine++) {
            if (freeAt[machine] < freeAt[first]) {
                first = machine;
            }
        }
        freeAt[first] += length;
        return freeAt[first];
    }

    private int costOfTests(int number) {
        int cost = 0;
        for (int i = 0; i < tests.size(); i++) {
            Test test = tests.get(i);
            if (test.number == number) {
                cost += test.length;
            }
        }
        return cost;
    }

    private boolean payFrom(int owner, int cost) {
        if (!isOwner(owner) || budgets[owner] < cost) {
            return false;
        }
        budgets[owner] -= cost;
        paidMinutes += cost;
        return true;
    }

    private int runTests(int number) {
        testings++;
        int failures = 0;
        for (int i = 0; i < tests.size(); i++) {
            Test test = tests.get(i);
            if (test.number == number) {
                test.addResult(test.isFailing);
                failures += test.isFailing ? 1 : 0;
            }
        }
        return failures;
    }

    private int countStale() {
        int stale = 0;
        for (int i = 0; i < releases.size(); i++) {
            stale += releases.get(i).isOutdated() ? 1 : 0;
        }
        return stale;
    }

    /** The packages that are needed, each in a range of versions. */
    private static final class Needs {
        private final int[] least;
        private final int[] greatest;

        Needs() {
            least = new int[MOST_PACKAGES];
            greatest = new int[MOST_PACKAGES];
        }

        boolean has(int other) {
            return isPackageIndex(other) && greatest[other] != NO_VERSION;
        }

        /** A package that is not needed admits every version. */
        boolean admits(int other, int version) {
            return !has(other) || isWithin(version, least[other], greatest[other]);
        }

        void put(int other, int newLeast, int newGreatest) {
            if (isPackageIndex(other)) {
                least[other] = newLeast;
                greatest[other] = newGreatest;
            }
        }

        void drop(int other) {
            put(other, NO_VERSION, NO_VERSION);
        }

        int count() {
            int count = 0;
            for (int other = 0; other < MOST_PACKAGES; other++) {
                count += has(other) ? 1 : 0;
            }
            return count;
        }

        boolean sameAs(Needs needs) {
            for (int other = 0; other < MOST_PACKAGES; other++) {
                if (least[other] != needs.least[other] || greatest[other] != needs.greatest[other]) {
                    return false;
                }
            }
            return true;
        }

        void copyFrom(Needs needs) {
            for (int other = 0; other < MOST_PACKAGES; other++) {
                put(other, needs.least[other], needs.greatest[other]);
            }
        }
    }

    /** What a package is made from: an interface, a body and needs. */
    private static final class Source {
        private int face;
        private int body;
        private final Needs needs;

        Source() {
            needs = new Needs();
        }

        boolean sameAs(Source source) {
            return face == source.face && body == source.body && needs.sameAs(source.needs);
        }

        void copyFrom(Source source) {
            face = source.face;
            body = source.body;
            needs.copyFrom(source.needs);
        }
    }

    /** A release for each package that is reached, and null for the others. */
    private static final class Choice {
        private final Release[] picks;

        Choice() {
            picks = new Release[MOST_PACKAGES];
        }

        Release at(int other) {
            return isPackageIndex(other) ? picks[other] : null;
        }

        int versionOf(int other) {
            Release release = at(other);
            return release == null ? NO_VERSION : release.version;
        }

        void put(int other, Release release) {
            if (isPackageIndex(other)) {
                picks[other] = release;
            }
        }

        void clear() {
            for (int other = 0; other < MOST_PACKAGES; other++) {
                picks[other] = null;
            }
        }

        void copyFrom(Choice choice) {
            for (int other = 0; other < MOST_PACKAGES; other++) {
                picks[other] = choice.picks[other];
            }
        }

        int countDifferences(Choice choice) {
            int count = 0;
            for (int other = 0; other < MOST_PACKAGES; other++) {
                count += picks[other] == choice.picks[other] ? 0 : 1;
            }
            return count;
        }

        boolean hasYanked() {
            for (int other = 0; other < MOST_PACKAGES; other++) {
                Release release = picks[other];
                if (release != null && release.isYanked) {
                    return true;
                }
            }
            return false;
        }
    }

    /** A version of a package that was published. */
    private static final class Release {
        private final int version;
        private final int face;
        private final Needs needs;
        private final Choice lock;
        private boolean isYanked;

        Release(int version, Source source, Choice choice) {
            this.version = version;
            face = source.face;
            needs = new Needs();
            needs.copyFrom(source.needs);
            lock = new Choice();
            lock.copyFrom(choice);
        }

        /** Whether it is stale; a yanked one is not. */
        boolean isOutdated() {
            return !isYanked && lock.hasYanked();
        }
    }

    /** What a package was compiled from last. */
    private static final class Build {
        private boolean isMade;
        private int face;
        private int body;
        private final int[] neededFaces;

        Build() {
            neededFaces = new int[MOST_PACKAGES];
        }

        boolean isOf(Source source, Choice choice) {
            if (!isMade || face != source.face || body != source.body) {
                return false;
            }
            for (int other = 0; other < MOST_PACKAGES; other++) {
                if (neededFaces[other] != neededFace(source, choice, other)) {
                    return false;
                }
            }
            return true;
        }

        void remember(Source source, Choice choice) {
            isMade = true;
            face = source.face;
            body = source.body;
            for (int other = 0; other < MOST_PACKAGES; other++) {
                neededFaces[other] = neededFace(source, choice, other);
            }
        }

        /** Only direct needs count, so a package that is merely reached has no face here. */
        private static int neededFace(Source source, Choice choice, int other) {
            Release release = choice.at(other);
            return release == null || !source.needs.has(other) ? NO_FACE : release.face;
        }
    }

    /** How a package was tested last: its source and choice then, and whether it passed. */
    private static final class Trial {
        private boolean isPassed;
        private final Source source;
        private final Choice choice;

        Trial() {
            source = new Source();
            choice = new Choice();
        }

        void remember(boolean passes, Source testedSource, Choice testedChoice) {
            isPassed = passes;
            source.copyFrom(testedSource);
            choice.copyFrom(testedChoice);
        }
    }

    /** A package with all that the forge knows of it but its tests. */
    private static final class Pack {
        private final int owner;
        private final Source source;
        private final Build build;
        private final Trial trial;
        private final ArrayList<Release> releases;

        Pack(int owner) {
            this.owner = owner;
            source = new Source();
            build = new Build();
            trial = new Trial();
            releases = new ArrayList<>();
        }

        boolean isPassedWith(Choice choice) {
            return choice != null && trial.isPassed && trial.source.sameAs(source)
                    && trial.choice.countDifferences(choice) == 0;
        }

        int versionAhead() {
            if (releases.isEmpty()) {
                return LEAST_VERSION;
            }
            Release last = releases.get(releases.size() - 1);
            if (last.face == source.face) {
                // One greater than ..99 is the next multiple anyway.
                return last.version + 1;
            }
            return (last.version / VERSION_STEP + 1) * VERSION_STEP;
        }

        /** The release with this version, or null. */
        Release releaseOf(int version) {
            for (int i = 0; i < releases.size(); i++) {
                Release release = releases.get(i);
                if (release.version == version) {
                    return release;
                }
            }
            return null;
        }
    }

    /** A test of a package, with the record of its last results. */
    private static final class Test {
        private final int number;
        private final int length;
        private boolean isFailing;
        private final boolean[] failures;
        private int resultCount;

        Test(int number, int length) {
            this.number = number;
            this.length = length;
            failures = new boolean[RECORD_LENGTH];
        }

        void addResult(boolean isFailure) {
            if (resultCount >= RECORD_LENGTH) {
                forgetOldest();
            }
            if (resultCount >= 0 && resultCount < RECORD_LENGTH) {
                failures[resultCount] = isFailure;
                resultCount++;
            }
        }

        private void forgetOldest() {
            for (int i = 1; i < RECORD_LENGTH; i++) {
                failures[i - 1] = failures[i];
            }
            resultCount = RECORD_LENGTH - 1;
        }

        /** How many results differ from the one ahead of them. */
        int countTurns() {
            int turns = 0;
            for (int i = 1; i < resultCount && i < RECORD_LENGTH; i++) {
                turns += failures[i] == failures[i - 1] ? 0 : 1;
            }
            return turns;
        }
    }

    /**
     * Finds choices. Needs go to lower packages alone, so that what needs a package is settled once
     * the packages above it are. The choice that it answers is good until it is asked again.
     */
    private static final class Chooser {
        private final Choice found;
        private final Choice way;
        private final int[] taken;

        Chooser() {
            found = new Choice();
            way = new Choice();
            taken = new int[MOST_PACKAGES];
        }

        /** The choice for the needs of a package, or null, by a search from the greatest package down. */
        Choice search(ArrayList<Pack> packs, int number, Needs needs) {
            found.clear();
            return pickDown(packs, needs, found, number - 1) ? found : null;
        }

        /** Picks for a package and those below it; where that fails, their picks are null as before. */
        private static boolean pickDown(ArrayList<Pack> packs, Needs needs, Choice choice, int other) {
            if (other < 0) {
                return true;
            }
            if (other >= packs.size()) {
                return false;
            }
            if (!isReached(needs, choice, other)) {
                return pickDown(packs, needs, choice, other - 1);
            }
            ArrayList<Release> candidates = packs.get(other).releases;
            for (int i = candidates.size() - 1; i >= 0; i--) {
                Release candidate = candidates.get(i);
                if (isAdmitted(needs, choice, other, candidate)) {
                    choice.put(other, candidate);
                    if (pickDown(packs, needs, choice, other - 1)) {
                        return true;
                    }
                }
            }
            choice.put(other, null);
            return false;
        }

        /** The same choice, or null, by going through all ways to take a release of each package, or none. */
        Choice goThroughAll(ArrayList<Pack> packs, int number, Needs needs) {
            boolean isFound = false;
            way.clear();
            Arrays.fill(taken, 0);
            int ways = countWays(packs, number);
            for (int i = 0; i < ways; i++) {
                // Each way counts for more than those before it, so the last choice is the one.
                if (isChoice(needs, way)) {
                    found.copyFrom(way);
                    isFound = true;
                }
                goToNextWay(packs, number);
            }
            return isFound ? found : null;
        }

        private static int countWays(ArrayList<Pack> packs, int number) {
            int ways = 1;
            for (int other = 0; other < number && other < packs.size(); other++) {
                ways *= packs.get(other).releases.size() + 1;
            }
            return ways;
        }

        /** Counts up: the lowest package turns fastest, from none over its oldest release to its newest. */
        private void goToNextWay(ArrayList<Pack> packs, int number) {
            for (int other = 0; other < number && other < packs.size() && other < taken.length; other++) {
                ArrayList<Release> candidates = packs.get(other).releases;
                int next = taken[other];
                if (next >= 0 && next < candidates.size()) {
                    way.put(other, candidates.get(next));
                    taken[other] = next + 1;
                    return;
                }
                way.put(other, null);
                taken[other] = 0;
            }
        }

        /** Whether exactly the reached packages have a release, and each of these may be taken. */
        private static boolean isChoice(Needs needs, Choice choice) {
            for (int other = MOST_PACKAGES - 1; other >= 0; other--) {
                Release release = choice.at(other);
                if (isReached(needs, choice, other) != (release != null)) {
                    return false;
                }
                if (release != null && !isAdmitted(needs, choice, other, release)) {
                    return false;
                }
            }
            return true;
        }

        private static boolean isReached(Needs needs, Choice choice, int other) {
            if (needs.has(other)) {
                return true;
            }
            for (int above = other + 1; above < MOST_PACKAGES; above++) {
                Release release = choice.at(above);
                if (release != null && release.needs.has(other)) {
                    return true;
                }
            }
            return false;
        }

        /** Whether a release of a package may be taken, going by all needs of that package. */
        private static boolean isAdmitted(Needs needs, Choice choice, int other, Release release) {
            if (release.isYanked || !needs.admits(other, release.version)) {
                return false;
            }
            for (int above = other + 1; above < MOST_PACKAGES; above++) {
                Release needing = choice.at(above);
                if (needing != null && !needing.needs.admits(other, release.version)) {
                    return false;
                }
            }
            return true;
        }
    }
}
