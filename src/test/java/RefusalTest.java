import java.util.ArrayList;
import java.util.List;
import java.util.function.Function;

/**
 * A method that throws changes nothing: between any two calls of a script, each call that throws
 * there is made, and the answers of the rest of the script have to stay the same.
 */
final class RefusalTest {
    private interface Step extends Function<PackageForge, Object> {
    }

    static void run(Expect expect) {
        List<Step> script = script();
        List<Step> pool = pool();
        List<Object> due = answers(new PackageForge(), script, 0);
        int refusals = 0;
        int changes = 0;
        for (int at = 0; at <= script.size(); at++) {
            for (Step call : pool) {
                PackageForge forge = after(script, at);
                if (Expect.outcome(() -> call.apply(forge)) instanceof Class) {
                    refusals++;
                    boolean isSame = answers(forge, script, at).equals(due.subList(at, due.size()));
                    changes += isSame ? 0 : 1;
                }
            }
        }
        int seen = refusals;
        int changed = changes;
        expect.equal("calls that throw were tried", true, () -> seen > 1000);
        expect.equal("calls that throw and change something", 0, () -> changed);
    }

    private static PackageForge after(List<Step> script, int count) {
        PackageForge forge = new PackageForge();
        answers(forge, script.subList(0, count), 0);
        return forge;
    }

    private static List<Object> answers(PackageForge forge, List<Step> script, int from) {
        List<Object> answers = new ArrayList<>();
        for (Step step : script.subList(from, script.size())) {
            answers.add(Expect.outcome(() -> step.apply(forge)));
        }
        return answers;
    }

    /** Whatever may throw in some state; where it does not, it is left out. */
    private static List<Step> pool() {
        List<Step> pool = new ArrayList<>(List.of(
                f -> f.addPackage(3), f -> f.addPackage(0),
                f -> f.setSource(0, 1000, 1), f -> f.setSource(0, 1, 1000), f -> f.setSource(6, 1, 1),
                f -> f.need(1, 0, 99, 999), f -> f.need(1, 0, 100, 1000), f -> f.need(1, 1, 100, 999),
                f -> f.need(0, 1, 100, 999), f -> f.need(2, 0, 300, 299), f -> f.need(6, 0, 100, 999),
                f -> f.setMachines(0), f -> f.setMachines(5), f -> f.fund(0, 0), f -> f.fund(3, 1),
                f -> f.fund(1, 10000), f -> f.budget(3), f -> f.addTest(0, 61), f -> f.addTest(6, 1),
                f -> f.addTest(0, 30), f -> f.setFailing(7, true), f -> f.flaky(7),
                f -> f.flakiest(), f -> f.goodShare(), f -> f.meanPaid()));
        for (int i = -1; i < 7; i++) {
            int number = i;
            pool.add(f -> f.compile(number));
            pool.add(f -> f.test(number));
            pool.add(f -> f.publish(number));
            pool.add(f -> f.testTime(number));
            pool.add(f -> f.canPublish(number));
            pool.add(f -> f.nextVersion(number));
            for (int j = 0; j < 3; j++) {
                int other = j;
                pool.add(f -> f.chosen(number, other));
                pool.add(f -> f.chosenByAll(number, other));
                pool.add(f -> f.dropNeed(number, other));
            }
            for (int version : new int[] {99, 100, 101, 200}) {
                pool.add(f -> f.yank(number, version));
                pool.add(f -> f.relock(number, version));
                pool.add(f -> f.isStale(number, version));
                pool.add(f -> f.locked(number, version, 0));
            }
        }
        return pool;
    }

    private static List<Step> script() {
        List<Step> script = new ArrayList<>(List.of(
                f -> f.addPackage(0), f -> f.addPackage(1), f -> f.addPackage(2),
                f -> f.addTest(0, 10), f -> f.addTest(1, 20), f -> f.addTest(0, 5),
                f -> f.compile(0), f -> f.fund(0, 50), f -> f.test(0), f -> f.publish(0),
                f -> f.publish(0), f -> f.setSource(0, 1, 1), f -> f.setFailing(0, true),
                f -> f.compile(0), f -> f.test(0), f -> f.setFailing(0, false), f -> f.fund(0, 50),
                f -> f.test(0), f -> f.publish(0), f -> f.need(1, 0, 100, 199), f -> f.compile(1),
                f -> f.fund(1, 60), f -> f.test(1), f -> f.publish(1), f -> f.need(2, 1, 100, 999),
                f -> f.compile(2), f -> f.test(2), f -> f.publish(2), f -> f.setMachines(2)));
        looks(script);
        script.addAll(List.of(
                f -> f.yank(0, 101), f -> f.relock(1, 100), f -> f.compile(1), f -> f.canPublish(1),
                f -> f.yank(0, 100), f -> f.canPublish(2), f -> f.isStale(1, 100), f -> f.need(1, 0, 100, 999),
                f -> f.compile(1), f -> f.test(1), f -> f.publish(1), f -> f.relock(2, 100),
                f -> f.yank(1, 100), f -> f.compile(2), f -> f.addPackage(0), f -> f.addTest(2, 7),
                f -> f.addTest(2, 8), f -> f.addTest(2, 9), f -> f.addTest(3, 1), f -> f.addTest(3, 1),
                f -> f.addPackage(1), f -> f.addPackage(2), f -> f.test(2), f -> f.fund(2, 30),
                f -> f.test(2), f -> f.publish(2), f -> f.compile(0), f -> f.test(0), f -> f.publish(0)));
        looks(script);
        return script;
    }

    private static void looks(List<Step> script) {
        script.addAll(List.of(f -> f.compiled(), f -> f.flakiest(), f -> f.goodShare(), f -> f.meanPaid()));
        for (int i = 0; i < 3; i++) {
            int number = i;
            script.addAll(List.of(f -> f.budget(number), f -> f.testTime(number), f -> f.flaky(number),
                    f -> f.canPublish(number), f -> f.nextVersion(number), f -> f.chosen(number, 0),
                    f -> f.chosenByAll(number, 1), f -> f.locked(number, 100, 0),
                    f -> f.locked(number, 100, 1), f -> f.isStale(number, 100)));
        }
    }
}
