import java.util.Random;

/** Runs of 512 calls drawn from fixed seeds: each answer has to be that of the plain model. */
final class ModelTest {
    private static final int RUNS = 400;
    private static final int CALLS = 512;
    private static final int MOST_CALLS_A_STEP = 7;

    private final Expect expect;
    private final Random random;
    private final PackageForge forge = new PackageForge();
    private final PlainModel model = new PlainModel();
    private final String run;
    private final int packages;
    private final int faces;
    private int calls;

    private ModelTest(Expect expect, int seed) {
        this.expect = expect;
        random = new Random(seed);
        run = "run " + seed;
        packages = 2 + random.nextInt(5);
        faces = 1 + random.nextInt(4);
    }

    static void run(Expect expect) {
        for (int seed = 0; seed < RUNS; seed++) {
            new ModelTest(expect, seed).go();
        }
    }

    private void go() {
        addFirstPackages();
        boolean isDense = random.nextBoolean();
        while (calls < CALLS - MOST_CALLS_A_STEP) {
            if (isDense && calls < 200) {
                releaseWithNeeds();
            } else {
                step();
            }
        }
    }

    private void addFirstPackages() {
        int first = random.nextInt(4) == 0 ? random.nextInt(packages + 1) : packages;
        for (int i = 0; i < first; i++) {
            int owner = random.nextInt(3);
            same("addPackage " + owner, () -> forge.addPackage(owner), () -> model.addPackage(owner));
        }
    }

    /** Releases with ever new needs at first, so that most choices have much to weigh. */
    private void releaseWithNeeds() {
        int number = random.nextInt(packages);
        for (int i = random.nextInt(4); i > 0 && number > 0; i--) {
            changeNeed(number, random.nextInt(number));
        }
        if (random.nextBoolean()) {
            source(number);
        }
        release(number);
    }

    private void same(String call, Expect.Call got, Expect.Call due) {
        calls++;
        expect.equal(run + ", call " + calls + ": " + call, Expect.outcome(due), got);
    }

    private void step() {
        switch (random.nextInt(20)) {
            case 0, 1 -> build();
            case 2, 3 -> source(number());
            case 4, 5 -> needs();
            case 6, 7 -> release(number());
            case 8, 9, 10, 11, 12 -> choice();
            case 13 -> tests();
            case 14 -> machinesAndBudgets();
            case 15 -> yank();
            case 16 -> locks();
            case 17 -> looks();
            default -> pieces(number());
        }
    }

    /** Mostly a package that is there, now and then one that is not. */
    private int number() {
        return random.nextInt(40) == 0 ? random.nextInt(9) - 2 : random.nextInt(packages);
    }

    private int version() {
        return 100 * (1 + random.nextInt(random.nextInt(4) == 0 ? 10 : 3)) + random.nextInt(4)
                - (random.nextInt(30) == 0 ? 1 : 0);
    }

    private void build() {
        int owner = random.nextInt(20) == 0 ? random.nextInt(5) - 1 : random.nextInt(3);
        if (random.nextInt(10) == 0) {
            same("addPackage " + owner, () -> forge.addPackage(owner), () -> model.addPackage(owner));
        }
        int number = number();
        int length = random.nextInt(20) == 0 ? random.nextInt(64) - 1 : 1 + random.nextInt(12);
        if (random.nextInt(4) == 0) {
            same("addTest " + number + " " + length, () -> forge.addTest(number, length),
                    () -> model.addTest(number, length));
        }
    }

    private void source(int number) {
        int face = random.nextInt(30) == 0 ? random.nextInt(1004) - 2 : random.nextInt(faces);
        int body = random.nextInt(30) == 0 ? random.nextInt(1004) - 2 : random.nextInt(3);
        same("setSource " + number + " " + face + " " + body, () -> forge.setSource(number, face, body),
                () -> model.setSource(number, face, body));
    }

    private void needs() {
        int number = number();
        changeNeed(number, number <= 0 || random.nextInt(10) == 0 ? number() : random.nextInt(number));
    }

    private void changeNeed(int number, int other) {
        if (random.nextInt(4) == 0) {
            same("dropNeed " + number + " " + other, () -> forge.dropNeed(number, other),
                    () -> model.dropNeed(number, other));
        } else {
            int least = random.nextInt(2) == 0 ? version() : 100;
            int greatest = random.nextInt(2) == 0 ? 999 : least + random.nextInt(200) - random.nextInt(9);
            same("need " + number + " " + other + " " + least + " " + greatest,
                    () -> forge.need(number, other, least, greatest),
                    () -> model.need(number, other, least, greatest));
        }
    }

    private void release(int number) {
        compile(number);
        test(number);
        publish(number);
    }

    private void pieces(int number) {
        switch (random.nextInt(5)) {
            case 0 -> compile(number);
            case 1 -> test(number);
            case 2 -> publish(number);
            case 3 -> same("canPublish " + number, () -> forge.canPublish(number),
                    () -> model.canPublish(number));
            default -> same("nextVersion " + number, () -> forge.nextVersion(number),
                    () -> model.nextVersion(number));
        }
    }

    private void compile(int number) {
        same("compile " + number, () -> forge.compile(number), () -> model.compile(number));
    }

    private void test(int number) {
        same("test " + number, () -> forge.test(number), () -> model.test(number));
    }

    private void publish(int number) {
        same("publish " + number, () -> forge.publish(number), () -> model.publish(number));
    }

    private void choice() {
        int number = random.nextInt(3) == 0 ? packages - 1 : number();
        int other = number();
        same("chosen " + number + " " + other, () -> forge.chosen(number, other),
                () -> model.chosen(number, other));
        same("chosenByAll " + number + " " + other, () -> forge.chosenByAll(number, other),
                () -> model.chosen(number, other));
    }

    private void tests() {
        int test = random.nextInt(20) == 0 ? random.nextInt(11) - 1 : random.nextInt(5);
        boolean isFailing = random.nextInt(3) == 0;
        same("setFailing " + test + " " + isFailing, () -> forge.setFailing(test, isFailing),
                () -> model.setFailing(test, isFailing));
        same("flaky " + test, () -> forge.flaky(test), () -> model.flaky(test));
        same("flakiest", forge::flakiest, model::flakiest);
    }

    private void machinesAndBudgets() {
        int machines = random.nextInt(7) - 1;
        int owner = random.nextInt(20) == 0 ? 3 : random.nextInt(3);
        int minutes = random.nextInt(20) == 0 ? random.nextInt(3) * 5000 : 1 + random.nextInt(60);
        int number = number();
        same("setMachines " + machines, () -> forge.setMachines(machines), () -> model.setMachines(machines));
        same("fund " + owner + " " + minutes, () -> forge.fund(owner, minutes),
                () -> model.fund(owner, minutes));
        same("budget " + owner, () -> forge.budget(owner), () -> model.budget(owner));
        same("testTime " + number, () -> forge.testTime(number), () -> model.testTime(number));
    }

    private void yank() {
        int number = number();
        int version = version();
        if (random.nextInt(2) == 0) {
            same("yank " + number + " " + version, () -> forge.yank(number, version),
                    () -> model.yank(number, version));
        }
    }

    private void locks() {
        int number = number();
        int version = random.nextInt(2) == 0 ? 100 : version();
        int other = number();
        same("isStale " + number + " " + version, () -> forge.isStale(number, version),
                () -> model.isStale(number, version));
        same("relock " + number + " " + version, () -> forge.relock(number, version),
                () -> model.relock(number, version));
        same("locked " + number + " " + version + " " + other, () -> forge.locked(number, version, other),
                () -> model.locked(number, version, other));
    }

    private void looks() {
        same("compiled", forge::compiled, model::compiled);
        same("goodShare", forge::goodShare, model::goodShare);
        same("meanPaid", forge::meanPaid, model::meanPaid);
    }
}
