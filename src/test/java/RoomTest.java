import java.lang.management.ManagementFactory;

/** All calls of one run live in one room, of some 600000 objects and arrays and 7.3 million fields and elements. */
final class RoomTest {
    private RoomTest() {
    }

    static void run() {
        com.sun.management.ThreadMXBean threads = (com.sun.management.ThreadMXBean) ManagementFactory.getThreadMXBean();
        long thread = Thread.currentThread().getId();
        dearest(new InsuredAgainstLuck());
        long before = threads.getThreadAllocatedBytes(thread);
        InsuredAgainstLuck x = new InsuredAgainstLuck();
        long made = threads.getThreadAllocatedBytes(thread);
        long sum = dearest(x);
        long then = threads.getThreadAllocatedBytes(thread);
        Due.isTrue(1, "an object is small: " + (made - before), made - before < 1000000);
        Due.isTrue(30, "the dearest calls have room: " + (then - made) + " bytes for " + sum, then - made < 20000000);
    }

    private static long dearest(InsuredAgainstLuck x) {
        for (int l = 0; l < 5; l++) {
            x.life(11 * l, 0, l);
        }
        x.set(0, 99999);
        long sum = 0;
        for (int i = 0; i < 20; i++) {
            sum += x.odds(i, 4050, 0) + x.run(i, 40, 0) + x.excess(0, 6, 1) + x.office(1) + x.round(0, 1, 1) + x.worst(1);
            sum += x.film(0, 0, 1048575, 20) + x.fits(0, 0, 21) + x.whose(0, 1) + x.hide(0, 99999, 1) + x.image() + x.back();
            sum += x.sheet(1, 2, 40) + x.sheet(2, 2, 40) + x.copy(1, 0, 2, 0, 40) + x.mean(0, 6, 0);
            sum += x.feed(5, 'o', 'd', 'd', 's', ' ') + x.text();
        }
        return sum;
    }
}
