import java.lang.management.ManagementFactory;

/** All calls of a run live in one room: what the constructor makes is small, and later calls make nothing. */
final class RoomTest {
    private static final Check check = new Check();
    private static final com.sun.management.ThreadMXBean THREADS =
            (com.sun.management.ThreadMXBean) ManagementFactory.getThreadMXBean();
    private static final int[][] UNITS = new int[12][];

    public static void main(String[] args) {
        for (int i = 0; i < 12; i++) {
            String next = i == 11 ? "Z" : "c." + (char) ('b' + i);
            UnitMaker maker = new UnitMaker("c." + (char) ('a' + i)).with(next, next, next).method("m");
            for (int k = 0; k < 11; k++) {
                maker.call("c.a", "w");
            }
            UNITS[i] = maker.bytes();
        }
        // The first runs count what the machine makes by itself.
        for (int i = 0; i < 20; i++) {
            dearRun(new PackageRules());
        }
        long before = made();
        PackageRules x = new PackageRules();
        long behind = made();
        check.due("a new object is under 100,000 bytes", behind - before < 100_000, true);
        before = made();
        dearRun(x);
        behind = made();
        check.due("later calls make nothing, but they made " + (behind - before) + " bytes", behind - before < 2_000, true);
        check.end();
    }

    private static long made() {
        return THREADS.getThreadAllocatedBytes(Thread.currentThread().getId());
    }

    private static void dearRun(PackageRules x) {
        x.type('#');
        x.pattern();
        x.type('Q');
        x.pattern();
        x.rule(0, 0, 0);
        x.rule(1, 1, 1);
        x.rule(2, 0, 1);
        x.rule(3, 1, 0);
        for (int[] unit : UNITS) {
            UnitMaker.load(x, unit);
        }
        for (int i = 0; i < 18; i++) {
            for (int r = 0; r < 4; r++) {
                x.violations(r);
                x.violation(r, i);
                x.freeze(r);
            }
            x.target(i % 12, 4);
            x.circular(i % 12);
            x.slices(1);
            x.fits(0, i % 12);
        }
        x.put(0, 4);
        x.load();
    }
}
