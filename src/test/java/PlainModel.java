import java.util.ArrayList;
import java.util.Collections;
import java.util.HashMap;
import java.util.List;
import java.util.Map;
import java.util.NoSuchElementException;
import java.util.TreeMap;
import java.util.TreeSet;

/** The document once more, word by word and without regard to cost, to compare answers with. */
final class PlainModel {
    private record Range(int least, int greatest) {
        boolean has(int version) {
            return least <= version && version <= greatest;
        }
    }

    private record Tested(int face, int body, Map<Integer, Range> needs, Map<Integer, Integer> choice,
            boolean passed) {
    }

    private record Compiled(int face, int body, Map<Integer, Integer> neededFaces) {
    }

    private static final class Release {
        int face;
        Map<Integer, Range> needs;
        Map<Integer, Integer> lock;
        boolean yanked;
    }

    private static final class Pack {
        int owner;
        int face;
        int body;
        final TreeMap<Integer, Range> needs = new TreeMap<>();
        final TreeMap<Integer, Release> releases = new TreeMap<>();
        Compiled compiled;
        Tested tested;
    }

    private static final class Check {
        int number;
        int length;
        boolean failing;
        final List<Boolean> results = new ArrayList<>();
    }

    private final List<Pack> packs = new ArrayList<>();
    private final List<Check> checks = new ArrayList<>();
    private final int[] budgets = new int[3];
    private final List<Integer> payments = new ArrayList<>();
    private int machines = 1;
    private int compilings;

    int addPackage(int owner) {
        argument(owner >= 0 && owner <= 2);
        state(packs.size() < 6);
        Pack pack = new Pack();
        pack.owner = owner;
        packs.add(pack);
        return packs.size() - 1;
    }

    int setSource(int number, int face, int body) {
        Pack pack = pack(number);
        argument(face >= 0 && face <= 999 && body >= 0 && body <= 999);
        int differing = 0;
        if (face != pack.face) {
            differing++;
        }
        if (body != pack.body) {
            differing++;
        }
        pack.face = face;
        pack.body = body;
        return differing;
    }

    int need(int number, int other, int least, int greatest) {
        Pack pack = pack(number);
        pack(other);
        argument(other < number);
        argument(least >= 100 && least <= 999 && greatest >= least && greatest <= 999);
        pack.needs.put(other, new Range(least, greatest));
        return pack.needs.size();
    }

    int dropNeed(int number, int other) {
        Pack pack = pack(number);
        pack(other);
        element(pack.needs.containsKey(other));
        pack.needs.remove(other);
        return pack.needs.size();
    }

    int chosen(int number, int other) {
        Pack pack = pack(number);
        pack(other);
        return requiredChoice(pack.needs).getOrDefault(other, 0);
    }

    boolean compile(int number) {
        Pack pack = pack(number);
        Compiled now = compiledNow(pack, requiredChoice(pack.needs));
        if (now.equals(pack.compiled)) {
            return false;
        }
        pack.compiled = now;
        compilings++;
        return true;
    }

    int compiled() {
        return compilings;
    }

    int addTest(int number, int length) {
        pack(number);
        argument(length >= 1 && length <= 60);
        state(checks.size() < 8);
        Check check = new Check();
        check.number = number;
        check.length = length;
        checks.add(check);
        return checks.size() - 1;
    }

    boolean setFailing(int test, boolean isFailing) {
        Check check = check(test);
        boolean before = check.failing;
        check.failing = isFailing;
        return before;
    }

    int setMachines(int count) {
        argument(count >= 1 && count <= 4);
        int before = machines;
        machines = count;
        return before;
    }

    int fund(int owner, int minutes) {
        argument(owner >= 0 && owner <= 2);
        argument(minutes >= 1 && minutes <= 9999);
        budgets[owner] += minutes;
        return budgets[owner];
    }

    int budget(int owner) {
        argument(owner >= 0 && owner <= 2);
        return budgets[owner];
    }

    int testTime(int number) {
        pack(number);
        List<Check> order = checksOf(number);
        order.sort((a, b) -> b.length - a.length);
        List<Integer> free = new ArrayList<>(Collections.nCopies(machines, 0));
        for (Check check : order) {
            int first = free.indexOf(Collections.min(free));
            free.set(first, free.get(first) + check.length);
        }
        return Collections.max(free);
    }

    int test(int number) {
        Pack pack = pack(number);
        Map<Integer, Integer> choice = requiredChoice(pack.needs);
        state(compiledNow(pack, choice).equals(pack.compiled));
        int sum = 0;
        for (Check check : checksOf(number)) {
            sum += check.length;
        }
        state(budgets[pack.owner] >= sum);
        budgets[pack.owner] -= sum;
        payments.add(sum);
        int failing = 0;
        for (Check check : checksOf(number)) {
            check.results.add(check.failing);
            if (check.failing) {
                failing++;
            }
        }
        pack.tested = testedNow(pack, choice, failing == 0);
        return failing;
    }

    int flaky(int test) {
        List<Boolean> all = check(test).results;
        List<Boolean> last = all.subList(Math.max(0, all.size() - 8), all.size());
        int differing = 0;
        for (int i = 1; i < last.size(); i++) {
            if (!last.get(i).equals(last.get(i - 1))) {
                differing++;
            }
        }
        return differing;
    }

    int flakiest() {
        element(!checks.isEmpty());
        int best = 0;
        for (int i = 1; i < checks.size(); i++) {
            if (flaky(i) > flaky(best)) {
                best = i;
            }
        }
        return best;
    }

    boolean canPublish(int number) {
        Pack pack = pack(number);
        Map<Integer, Integer> choice = choice(pack.needs);
        return choice != null && testedNow(pack, choice, true).equals(pack.tested);
    }

    int nextVersion(int number) {
        Pack pack = pack(number);
        if (pack.releases.isEmpty()) {
            return 100;
        }
        int next = pack.releases.lastKey() + 1;
        if (pack.face != pack.releases.lastEntry().getValue().face) {
            while (next % 100 != 0) {
                next++;
            }
        }
        return next;
    }

    int publish(int number) {
        Pack pack = pack(number);
        supported(canPublish(number) && nextVersion(number) <= 999);
        state(releases().size() < 20);
        Release release = new Release();
        release.face = pack.face;
        release.needs = new HashMap<>(pack.needs);
        release.lock = choice(pack.needs);
        int version = nextVersion(number);
        pack.releases.put(version, release);
        return version;
    }

    int yank(int number, int version) {
        Release release = release(number, version);
        state(!release.yanked);
        release.yanked = true;
        int stale = 0;
        for (Release each : releases()) {
            if (stale(each)) {
                stale++;
            }
        }
        return stale;
    }

    boolean isStale(int number, int version) {
        return stale(release(number, version));
    }

    int relock(int number, int version) {
        Release release = release(number, version);
        state(!release.yanked);
        Map<Integer, Integer> choice = requiredChoice(release.needs);
        TreeSet<Integer> all = new TreeSet<>(choice.keySet());
        all.addAll(release.lock.keySet());
        all.removeIf(p -> java.util.Objects.equals(choice.get(p), release.lock.get(p)));
        release.lock = choice;
        return all.size();
    }

    int locked(int number, int version, int other) {
        pack(number);
        pack(other);
        return release(number, version).lock.getOrDefault(other, 0);
    }

    float goodShare() {
        int good = 0;
        for (Release release : releases()) {
            if (!release.yanked && !stale(release)) {
                good++;
            }
        }
        arithmetic(!releases().isEmpty());
        return (float) good / (float) releases().size();
    }

    double meanPaid() {
        arithmetic(!payments.isEmpty());
        int sum = 0;
        for (int payment : payments) {
            sum += payment;
        }
        return (double) sum / (double) payments.size();
    }

    // ---- choices

    private Map<Integer, Integer> requiredChoice(Map<Integer, Range> needs) {
        Map<Integer, Integer> choice = choice(needs);
        supported(choice != null);
        return choice;
    }

    /** Every way to take a release of each package, or none, is looked at. */
    private Map<Integer, Integer> choice(Map<Integer, Range> needs) {
        List<Map<Integer, Integer>> ways = new ArrayList<>();
        ways.add(new TreeMap<>());
        for (int p = 0; p < packs.size(); p++) {
            for (Map<Integer, Integer> way : new ArrayList<>(ways)) {
                for (int version : packs.get(p).releases.keySet()) {
                    Map<Integer, Integer> longer = new TreeMap<>(way);
                    longer.put(p, version);
                    if (ways.size() < 5000) {
                        ways.add(longer);
                    }
                }
            }
        }
        Map<Integer, Integer> best = null;
        for (Map<Integer, Integer> way : ways) {
            if (isChoice(needs, way) && (best == null || compare(way, best) > 0)) {
                best = way;
            }
        }
        return best;
    }

    private boolean isChoice(Map<Integer, Range> needs, Map<Integer, Integer> way) {
        TreeSet<Integer> reached = new TreeSet<>();
        List<Map<Integer, Range>> open = new ArrayList<>(List.of(needs));
        while (!open.isEmpty()) {
            for (Map.Entry<Integer, Range> need : open.remove(0).entrySet()) {
                Integer version = way.get(need.getKey());
                if (version == null || !need.getValue().has(version)) {
                    return false;
                }
                Release release = packs.get(need.getKey()).releases.get(version);
                if (release.yanked) {
                    return false;
                }
                if (reached.add(need.getKey())) {
                    open.add(release.needs);
                }
            }
        }
        return reached.equals(way.keySet());
    }

    private static int compare(Map<Integer, Integer> a, Map<Integer, Integer> b) {
        for (int p = 5; p >= 0; p--) {
            int order = Integer.compare(a.getOrDefault(p, 0), b.getOrDefault(p, 0));
            if (order != 0) {
                return order;
            }
        }
        return 0;
    }

    // ---- the rest

    private Compiled compiledNow(Pack pack, Map<Integer, Integer> choice) {
        Map<Integer, Integer> faces = new TreeMap<>();
        for (int other : pack.needs.keySet()) {
            faces.put(other, packs.get(other).releases.get(choice.get(other)).face);
        }
        return new Compiled(pack.face, pack.body, faces);
    }

    private static Tested testedNow(Pack pack, Map<Integer, Integer> choice, boolean passed) {
        return new Tested(pack.face, pack.body, new TreeMap<>(pack.needs), choice, passed);
    }

    private List<Check> checksOf(int number) {
        List<Check> list = new ArrayList<>(checks);
        list.removeIf(check -> check.number != number);
        return list;
    }

    private List<Release> releases() {
        List<Release> all = new ArrayList<>();
        for (Pack pack : packs) {
            all.addAll(pack.releases.values());
        }
        return all;
    }

    private boolean stale(Release release) {
        boolean hasYanked = false;
        for (Map.Entry<Integer, Integer> entry : release.lock.entrySet()) {
            hasYanked |= packs.get(entry.getKey()).releases.get(entry.getValue()).yanked;
        }
        return !release.yanked && hasYanked;
    }

    private Pack pack(int number) {
        if (number < 0 || number >= packs.size()) {
            throw new IndexOutOfBoundsException();
        }
        return packs.get(number);
    }

    private Check check(int test) {
        if (test < 0 || test >= checks.size()) {
            throw new IndexOutOfBoundsException();
        }
        return checks.get(test);
    }

    private Release release(int number, int version) {
        Release release = pack(number).releases.get(version);
        element(release != null);
        return release;
    }

    private static void argument(boolean isGood) {
        if (!isGood) {
            throw new IllegalArgumentException();
        }
    }

    private static void state(boolean isGood) {
        if (!isGood) {
            throw new IllegalStateException();
        }
    }

    private static void element(boolean isThere) {
        if (!isThere) {
            throw new NoSuchElementException();
        }
    }

    private static void supported(boolean isSo) {
        if (!isSo) {
            throw new UnsupportedOperationException();
        }
    }

    private static void arithmetic(boolean isGood) {
        if (!isGood) {
            throw new ArithmeticException();
        }
    }
}
