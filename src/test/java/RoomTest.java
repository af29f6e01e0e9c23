import com.sun.management.ThreadMXBean;
import java.lang.management.ManagementFactory;

/** All calls of one run live in one room: an object is made once, and its calls make nothing. */
public final class RoomTest {
    private static final String LAW = "L061203D003D112D223D331M001M000M110M-41M-30P01P12P23";
    private static final ThreadMXBean THREADS = (ThreadMXBean) ManagementFactory.getThreadMXBean();

    private static long sink = 0;

    public static void main(String[] args) {
        Due.that("the machine counts", THREADS.isThreadAllocatedMemoryEnabled());
        HoundLicence x = new HoundLicence();
        everyCall(x);
        long before = THREADS.getCurrentThreadAllocatedBytes();
        HoundLicence y = new HoundLicence();
        long made = THREADS.getCurrentThreadAllocatedBytes();
        everyCall(y);
        long called = THREADS.getCurrentThreadAllocatedBytes();
        Due.that("few bytes for an object: " + (made - before), made - before < 20000);
        Due.that("no bytes made by calls: " + (called - made), called - made < 1000);
        Due.that("answers were given", sink != 0);
        Due.end();
    }

    private static void everyCall(HoundLicence x) {
        for (int i = 0; i < 300; i++) {
            sink += x.wipe();
            for (int at = 0; at < LAW.length(); at++) {
                sink += x.write(LAW.charAt(at));
            }
            sink += x.fault() + x.ordain() + x.about(i % 11) + x.dog(i % 4, i % 6) + x.man(i % 5, i % 5);
            for (int act = 0; act < 16; act++) {
                sink += x.lead(act % 4, 1 + i % 2) + x.leash(act % 5) + x.give(act % 5, i % 4) + x.hour();
            }
            sink += x.undo() + x.keep(i % 2) + x.again(i % 2);
            sink += x.caught(24) + x.routes(i % 4, 7, i % 5, i % 2) + x.aired(i % 4) + x.heir(i % 4) + x.pays(0, 24);
            sink += x.spans(2, 3, i % 100) + x.see(i % 5, 0, 0) + x.walks() + x.sure(i % 5) + x.unsee();
            sink += x.rests(i, i % 2) + x.chance(i % 5, 24, true) + x.seed(i) + x.days(30);
        }
    }
}
