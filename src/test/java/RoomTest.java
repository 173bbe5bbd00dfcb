import java.lang.management.ManagementFactory;

/** All calls of a run live in one room, so no call may make objects. */
public final class RoomTest {
    private static final Check CHECK = new Check("RoomTest");
    private static final int MOST_BYTES_OF_AN_OBJECT = 16 * 1024;

    public static void main(String[] args) {
        PapersAreOnCats x = Check.land("c0003;c2305;c5907;c6909;c4012;c7015;m0;m1;m0;m1;w00;w11;f099;x029;");
        dearest(x);
        long before = allocated();
        for (int i = 0; i < 50; i++) {
            dearest(x);
        }
        CHECK.due("calls make nothing", (allocated() - before) / 1024, 0);
        before = allocated();
        PapersAreOnCats other = new PapersAreOnCats();
        long made = allocated() - before;
        CHECK.due("an object is small, not " + made, made <= MOST_BYTES_OF_AN_OBJECT ? 1 : 0, 1);
        CHECK.due("the other one has no cats", other.count(0), 0);
        CHECK.end();
    }

    private static void dearest(PapersAreOnCats x) {
        x.all();
        x.write(2, 0);
        x.putFish(0, 15, 3, 0);
        x.row(1, 2, 100);
        x.whatIs(1, 0, 2);
        x.dogs(0, 1, 7, 20, 0);
        x.nights(20, 7, 0);
        x.two(24);
        x.shave(99);
        x.bribe(0, 1, 99);
        x.busiest(99, 0);
        x.frontier(0);
        x.keep(2, 1, 6, 9);
        x.cost(2);
        x.image();
        x.restore();
    }

    private static long allocated() {
        com.sun.management.ThreadMXBean bean = (com.sun.management.ThreadMXBean) ManagementFactory.getThreadMXBean();
        return bean.getThreadAllocatedBytes(Thread.currentThread().getId());
    }
}
