import java.lang.management.ManagementFactory;

/** What a run of dear calls makes stays far below the room that all calls have. */
public final class RoomTest {
    /** A tenth of 7.3 million elements of some four bytes. */
    private static final long MOST_BYTES = 3_000_000;
    private static final long MOST_MADE = 40_000;

    public static void main(String[] args) {
        Checks checks = new Checks("RoomTest");
        CountGates warm = new CountGates();
        run(warm);
        long before = made();
        CountGates x = new CountGates();
        long making = made() - before;
        checks.due("bytes of a new object, " + making, making > MOST_MADE ? making : 0, 0);
        run(x);
        long all = made() - before;
        checks.due("bytes of 512 calls, " + all, all > MOST_BYTES ? all : 0, 0);
        checks.finish();
    }

    private static long made() {
        return ((com.sun.management.ThreadMXBean) ManagementFactory.getThreadMXBean()).getCurrentThreadAllocatedBytes();
    }

    private static void run(CountGates x) {
        for (int i = 0; i < 10; i++) {
            x.gate(i % 6, i * 5 % 6, i % 8, i);
        }
        for (int i = 0; i < 5; i++) {
            x.goer(i, 19 - i, i % 4);
        }
        x.image(0);
        for (int i = 0; i < 30; i++) {
            Checks.force(x, "turns " + "many*7+arm".repeat(1) + "+kind-day*mood".repeat(7) + ";pays 9;bars if many=gate and arm<3");
            x.fixed(i % 5, i % 6, i % 20);
            x.cut(i % 5, (i + 1) % 6, 1);
            x.cheap(i % 5, i % 6, -1);
            x.days(i, 60);
            x.ask(i % 10, 0);
            x.likely(i % 5, i % 6, -1, 30);
            Checks.orders(x, "pass times 20;latch 9");
            x.back(0);
        }
    }
}
