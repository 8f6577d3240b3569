import java.lang.management.ManagementFactory;

/** What an object costs, and that its calls make nothing more: all calls of a run live in one room. */
public final class RoomTest {
    private static final long MOST_FOR_AN_OBJECT = 1_000_000;
    private static final long MOST_FOR_ITS_CALLS = 20_000;

    private static long made() {
        return ((com.sun.management.ThreadMXBean) ManagementFactory.getThreadMXBean()).getCurrentThreadAllocatedBytes();
    }

    private static int calls(CohereBench x) {
        int sum = x.processors(4);
        for (int s = 0; s < 16; s++) {
            sum += x.right(s, 1);
            for (int e = 0; e < 3; e++) {
                // Every state has all its own steps, so that a walk tries many and is SPENT.
                sum += x.row((s * 64 + e) * 16 + 1, (0x10 + (s + e + 1) % 16) << 24, 0);
            }
        }
        for (int i = 0; i < 60; i++) {
            sum += x.walk(4000) + x.go(x.walked(0) - 1) + x.choose(0) + x.number() + x.step(0, 0);
        }
        return sum;
    }

    public static void main(String[] args) {
        calls(new CohereBench());
        long before = made();
        CohereBench x = new CohereBench();
        long object = made() - before;
        before = made();
        calls(x);
        long later = made() - before;
        System.out.println("an object takes " + object + " bytes, its calls " + later);
        if (object > MOST_FOR_AN_OBJECT || later > MOST_FOR_ITS_CALLS || x.walked(6) != 1) {
            System.out.println("that is too much, or the walks were too short");
            System.exit(1);
        }
    }
}
