import com.sun.management.ThreadMXBean;
import java.lang.management.ManagementFactory;

/** Looking at the largest forge again and again makes hardly any objects. */
final class RoomTest {
    private static final int CALLS = 512;
    private static final long MOST_BYTES = 500_000;

    static void run(Expect expect) {
        PackageForge forge = new PackageForge();
        fill(forge);
        expect.equal("the dearest choice", 400, () -> forge.chosenByAll(5, 4));
        look(forge);
        ThreadMXBean threads = (ThreadMXBean) ManagementFactory.getThreadMXBean();
        long id = Thread.currentThread().getId();
        long before = threads.getThreadAllocatedBytes(id);
        look(forge);
        long bytes = threads.getThreadAllocatedBytes(id) - before;
        expect.equal("bytes made: " + bytes, true, () -> bytes < MOST_BYTES);
    }

    /** 5 needs packages 0 to 4, which have the four releases 100 to 400 each. */
    private static void fill(PackageForge forge) {
        for (int number = 0; number < 6; number++) {
            forge.addPackage(number % 3);
            for (int other = 0; other < number; other++) {
                forge.need(number, other, 100, 999);
            }
            for (int face = 0; number < 5 && face < 4; face++) {
                Forges.releaseWithFace(forge, number, face);
            }
        }
    }

    private static void look(PackageForge forge) {
        for (int i = 0; i < CALLS; i++) {
            forge.chosenByAll(5, i % 5);
            forge.chosen(5, i % 5);
            forge.compile(5);
            forge.test(5);
            forge.canPublish(5);
            forge.relock(4, 100);
            forge.goodShare();
            forge.testTime(5);
        }
    }
}
