import java.lang.management.ManagementFactory;

/** The room of a run: an object is small, and no call makes any more. */
public final class RoomTest {
    private static final Check CHECK = new Check();
    private static final int MOST_BYTES_OF_OBJECT = 48 * 1024;
    private static final int MOST_BYTES_OF_CALLS = 64 * 1024;

    public static void main(String[] args) {
        com.sun.management.ThreadMXBean meter =
            (com.sun.management.ThreadMXBean) ManagementFactory.getThreadMXBean();
        long thread = Thread.currentThread().getId();
        work(new PlyHouse());
        long before = meter.getThreadAllocatedBytes(thread);
        PlyHouse house = new PlyHouse();
        long made = meter.getThreadAllocatedBytes(thread);
        work(house);
        long worked = meter.getThreadAllocatedBytes(thread);
        CHECK.due("an object takes " + (made - before), made - before <= MOST_BYTES_OF_OBJECT, true);
        CHECK.due("calls take " + (worked - made), worked - made <= MOST_BYTES_OF_CALLS, true);
        CHECK.finish("RoomTest");
    }

    /** The dearest calls, each with what it found before made void. */
    private static void work(PlyHouse house) {
        int dots = 0x2e2e2e2e;
        int sum = 0;
        for (int times = 0; times < 40; times++) {
            house.feed(dots, dots, dots, dots, dots);
            house.leaf();
            // "grade 1 worth 9999 ;"
            house.feed(0x67726164, 0x65203120, 0x776f7274, 0x68203939, 0x3939203b);
            house.grades();
            house.glue(5, times);
            house.net(times, 0xffffff);
            sum += house.worth() + house.centre(2) + house.plan(1) + house.best(9, 0, 1000) + house.warp(9, 0);
        }
        CHECK.due("some answer", sum > 0, true);
    }
}
