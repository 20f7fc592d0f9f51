import java.lang.management.ManagementFactory;

/**
 * What calls make: after the object is made no call makes anything, so that all calls of one run
 * have room; and making one stays small.
 */
public final class RoomTest {
    private static final Due due = new Due();

    public static void main(String[] args) {
        com.sun.management.ThreadMXBean threads =
                (com.sun.management.ThreadMXBean) ManagementFactory.getThreadMXBean();
        long me = Thread.currentThread().getId();
        // Once for the classes and the room's own counting.
        round(new RollingNets());
        threads.getThreadAllocatedBytes(me);

        long start = threads.getThreadAllocatedBytes(me);
        RollingNets x = new RollingNets();
        long made = threads.getThreadAllocatedBytes(me);
        due.is("an object has under 400,000 bytes: " + (made - start), made - start < 400000, true);
        long least = Long.MAX_VALUE;
        for (int k = 0; k < 3; k++) {
            long before = threads.getThreadAllocatedBytes(me);
            round(x);
            least = Math.min(least, threads.getThreadAllocatedBytes(me) - before);
        }
        due.is("calls make nothing: " + least + " bytes", least < 1000, true);
        due.end();
    }

    private static void round(RollingNets x) {
        x.image(true);
        x.set(1, 0);
        x.set(2, 1);
        x.set(3, 1);
        x.set(4, 0);
        for (int k = 0; k < 20; k++) {
            x.trade(k % 6, (k + 1) % 6, k % 6, 5 + k, 100);
            x.apart(k % 6, (k + 2) % 6, k % 6, 5 + k, 100);
            x.tell(k % 6, (k + 3) % 6, 0, 6);
            x.tell(k % 6, (k + 3) % 6, 2, 6);
            x.night(1);
            x.give(k % 6, k % 6, 1);
            x.call(2 * k + 1);
            x.feed(0x6e696768, 0x7420313b, 0x72616e6b, 0x20302031, 0x203b2020);
            x.plan();
            x.run(2);
            x.fault(0);
            for (int what = 0; what < 20; what++) {
                x.look(what);
                x.at(k % 6, k % 6, what);
                x.lot(k % 6, k % 6, 0, what);
                x.tomorrow(k % 6, k % 6, what);
                x.deal(k, what);
                x.notice(k, what);
                x.issue(k % 6, what);
                x.book(k, what);
                x.margin(k % 6, what);
                x.stress(what);
                x.queue(k % 6, what - 1, 0);
                x.aged(k % 6, what);
                x.statement(k % 6, what, true);
                x.ahead(k % 6, what);
                x.reached(k, what);
            }
        }
        x.move(0, 1, 0, 1);
        x.split(0, 2);
        x.suspend(0, true);
        x.collateral(0, 5);
        x.dividend(0, 5);
        x.end(0);
        x.image(false);
    }
}
