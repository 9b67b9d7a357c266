import java.lang.management.ManagementFactory;

/** What the calls of one object make has to stay small: nothing is given back in a run's room. */
public final class RoomTest {
    private static final com.sun.management.ThreadMXBean THREADS =
        (com.sun.management.ThreadMXBean) ManagementFactory.getThreadMXBean();

    public static void main(String[] args) {
        Due due = new Due();
        due.sentence("An object is used for at most 512 calls after it has been made", "which make little");
        TasterPanels x = Due.panel(5, 26);
        dearest(x, 26);
        long before = bytes();
        long none = bytes() - before;
        before = bytes();
        TasterPanels y = Due.panel(5, 26);
        dearest(y, 512 - 26);
        long made = bytes() - before - none;
        System.out.println(made + " bytes for one object and 512 calls");
        // 26 tasters and 40 tests, and no more than a few hundred numbers for each.
        due.same("one object stays under 64 KiB", made < 65536, true);
        due.end();
    }

    private static long bytes() {
        return THREADS.getThreadAllocatedBytes(Thread.currentThread().getId());
    }

    private static void dearest(TasterPanels x, int calls) {
        for (int i = 0; i < calls; i++) {
            if (i < 45) {
                x.test(3, 5);
            } else if (i < 45 + 130) {
                x.rank(0, (i - 45) / 5, (i - 45) % 5, (i - 45) % 5 + 1);
            } else if (i % 2 == 0) {
                x.permuted(0, 0);
            } else {
                x.row(26);
            }
        }
    }
}
