import java.util.ArrayList;
import java.util.List;

/**
 * All that can be asked of a forge: first what looks only, then what changes it, so that nothing
 * stays hidden. It makes some 300 calls at most, which leaves 200 for the way to the state.
 */
final class Probe {
    private static final int PACKAGES = 6;
    private static final int TESTS = 8;

    private final PackageForge forge;
    private final List<Object> answers = new ArrayList<>();

    private Probe(PackageForge forge) {
        this.forge = forge;
    }

    static List<Object> answers(PackageForge forge) {
        Probe probe = new Probe(forge);
        probe.look();
        probe.change();
        return probe.answers;
    }

    private void ask(String name, Expect.Call call) {
        answers.add(name + " " + Expect.outcome(call));
    }

    private void look() {
        figures();
        for (int n = 0; n < PACKAGES; n++) {
            int number = n;
            ask("canPublish", () -> forge.canPublish(number));
            ask("nextVersion", () -> forge.nextVersion(number));
            ask("testTime", () -> forge.testTime(number));
            for (int o = 0; o < number; o++) {
                int other = o;
                ask("chosen", () -> forge.chosen(number, other));
                ask("chosenByAll", () -> forge.chosenByAll(number, other));
            }
            releases(number);
        }
    }

    private void figures() {
        for (int o = 0; o < 3; o++) {
            int owner = o;
            ask("budget", () -> forge.budget(owner));
        }
        for (int t = 0; t < TESTS; t++) {
            int test = t;
            ask("flaky", () -> forge.flaky(test));
        }
        ask("flakiest", forge::flakiest);
        ask("compiled", forge::compiled);
        ask("goodShare", forge::goodShare);
        ask("meanPaid", forge::meanPaid);
    }

    private void releases(int number) {
        for (int hundred = 100; hundred < 1000; hundred += 100) {
            for (int v = hundred; v < hundred + 20 && isThere(number, v); v++) {
                int version = v;
                ask("isStale", () -> forge.isStale(number, version));
                for (int o = 0; o < number; o++) {
                    int other = o;
                    ask("locked", () -> forge.locked(number, version, other));
                }
            }
        }
    }

    private boolean isThere(int number, int version) {
        return Expect.outcome(() -> forge.isStale(number, version)) instanceof Boolean;
    }

    private void change() {
        for (int n = 0; n < PACKAGES; n++) {
            int number = n;
            ask("test", () -> forge.test(number));
        }
        figures();
        for (int n = 0; n < PACKAGES; n++) {
            int number = n;
            ask("canPublish after", () -> forge.canPublish(number));
            ask("compile", () -> forge.compile(number));
            ask("setSource", () -> forge.setSource(number, number + 1, number + 2));
            for (int o = 0; o < number; o++) {
                int other = o;
                ask("dropNeed", () -> forge.dropNeed(number, other));
            }
        }
        for (int t = 0; t < TESTS; t++) {
            int test = t;
            ask("setFailing", () -> forge.setFailing(test, false));
        }
        ask("setMachines", () -> forge.setMachines(1));
        ask("addTest", () -> forge.addTest(0, 1));
        ask("addPackage", () -> forge.addPackage(0));
    }
}
