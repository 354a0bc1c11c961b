import java.lang.management.ManagementFactory;

/** A new object stays small, and calls make nothing. */
public final class RoomTest {
    private static final Due due = new Due();
    private static final com.sun.management.ThreadMXBean threads =
        (com.sun.management.ThreadMXBean) ManagementFactory.getThreadMXBean();
    /** Pieces of which FIRST FIT takes more rolls than need be. */
    private static final String TEXT = "f0,0,0;f4,0,0;f3,0,0;f0,3,0;f0,4,0;f0,0,3;f0,0,6;u9;"
        + "s0,1,1,0;s0,2,1,0;s0,3,1,0;s0,4,1,0;s0,5,1,0;s5,6,1,0;s0,7,1,5;r10,0;";

    public static void main(String[] args) {
        allCalls(new RoofNet(), 50);
        long before = made();
        RoofNet net = new RoofNet();
        long ofOne = made() - before;
        due.is("bytes of a new object: " + ofOne + ", at most 12000", ofOne <= 12000 ? 1 : 0, 1);
        before = made();
        allCalls(net, 30);
        long ofCalls = made() - before;
        due.is("bytes of 30 times all calls: " + ofCalls + ", at most 4000", ofCalls <= 4000 ? 1 : 0, 1);
        due.end();
    }

    private static long made() {
        return threads.getThreadAllocatedBytes(Thread.currentThread().getId());
    }

    private static void allCalls(RoofNet net, int times) {
        for (int i = 0; i < times; i++) {
            net.wipe();
            Due.write(net, TEXT);
            net.fault();
            net.lay();
            net.density(0, 5);
            net.want(0, 5);
            net.load(7, 5);
            net.move(0, 0, 5);
            net.undo();
            net.round(20);
            net.undo();
            net.down(0, 1);
            net.undo();
            for (int what = 0; what < 9; what++) {
                net.joint(7, what);
                net.exact(7, what, 0);
                net.bears(0, what);
                net.strand(0, what);
                net.settle(what);
                net.better(what);
                net.greatest(what);
                net.rolls(what);
                net.rollOf(what);
                net.count(what);
            }
            net.slack();
            net.miss();
        }
    }
}
