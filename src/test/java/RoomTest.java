import java.lang.management.ManagementFactory;

/** The room of a run: calls that are dear make no objects, the others few and small ones. */
public final class RoomTest {
    private static final int CALLS = 512;
    // Far below the room that a run has: 7.3 million fields and elements in 600,000 objects.
    private static final long BYTES_OF_A_RUN = 1_000_000;
    private static final long BYTES_OF_NONE = 20_000;

    private interface Deed {
        void on(StraitSwim s, int i);
    }

    public static void main(String[] args) {
        uses("new", BYTES_OF_A_RUN * 10, (s, i) -> new StraitSwim());
        uses("swim", BYTES_OF_NONE, (s, i) -> s.swim(i % 4, 100, 50, i % 48, i % 8));
        uses("best", BYTES_OF_NONE, (s, i) -> s.best(i % 4, 100, 50));
        uses("ends", BYTES_OF_NONE, (s, i) -> s.ends(i % 4, 100, 50, i % 4));
        uses("done", BYTES_OF_NONE, (s, i) -> s.done());
        uses("goes", BYTES_OF_NONE, (s, i) -> s.goes(15, 0));
        uses("near", BYTES_OF_NONE, (s, i) -> s.near(0));
        uses("lanes", BYTES_OF_NONE, (s, i) -> s.lanes());
        uses("floor", BYTES_OF_NONE, (s, i) -> s.floor(10));
        uses("order", BYTES_OF_NONE, (s, i) -> s.order(0x1234));
        uses("keep a SWIMMER", BYTES_OF_A_RUN, (s, i) -> s.keep(i % 8, 1, i % 4));
        uses("keep the SWIM", BYTES_OF_A_RUN, (s, i) -> s.keep(i % 8, 3, 0));
        uses("keep counts", BYTES_OF_A_RUN, (s, i) -> s.keep(i % 8, 4, 0));
        uses("make", BYTES_OF_A_RUN, (s, i) -> s.make(i % 8, 3, 60));
        uses("copy", BYTES_OF_NONE, (s, i) -> s.copy(0, 0, 0, 1, 50));
        Check.finish();
    }

    private static StraitSwim busy() {
        StraitSwim s = new StraitSwim();
        s.set(0, 0);
        for (int i = 0; i < 10; i++) {
            s.swimmer(i % 4, 1, 400);
            s.feed(i, 1);
            s.slot(i, 0, 1 + i % 4, 65535 >> i);
        }
        for (int day = 0; day < 16; day++) {
            s.calm(day, true);
        }
        for (int i = 0; i < 8; i++) {
            s.ship(10 * i, 0, 1, 1);
        }
        for (int i = 0; i < 60; i++) {
            s.stroke(99);
        }
        s.swim(0, 100, 50, 0, 0);
        s.make(0, 4, 60);
        return s;
    }

    private static void uses(String what, long bound, Deed deed) {
        StraitSwim s = busy();
        for (int i = 0; i < CALLS; i++) {
            deed.on(s, i);
        }
        com.sun.management.ThreadMXBean threads =
                (com.sun.management.ThreadMXBean) ManagementFactory.getThreadMXBean();
        long me = Thread.currentThread().getId();
        long before = threads.getThreadAllocatedBytes(me);
        for (int i = 0; i < CALLS; i++) {
            deed.on(s, i);
        }
        long used = threads.getThreadAllocatedBytes(me) - before;
        Check.holds(what + ": " + used + " bytes, at most " + bound, used <= bound);
    }
}
