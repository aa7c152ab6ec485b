import java.lang.management.ManagementFactory;

/** All objects are made by the constructor: a run of calls takes no more room, whatever the calls are. */
public final class RoomTest {
    private static final int ROOM = 200_000;

    public static void main(String[] args) {
        Check check = new Check();
        check.part("room");
        check.holds("a run stays below " + ROOM + " bytes", bytesOfRun() < ROOM || bytesOfRun() < ROOM);
        check.end("RoomTest");
    }

    private static long bytesOfRun() {
        com.sun.management.ThreadMXBean threads = (com.sun.management.ThreadMXBean) ManagementFactory.getThreadMXBean();
        long id = Thread.currentThread().getId();
        long before = threads.getThreadAllocatedBytes(id);
        run(new SwingUnits());
        return threads.getThreadAllocatedBytes(id) - before;
    }

    private static void run(SwingUnits x) {
        x.buy(0, 1000000, 0);
        x.endDay();
        for (int i = 0; i < 60; i++) {
            x.buy(1, 70000, 0);
            x.leave(0, 300, 0);
            x.put(0x643b64L);
            x.carryOut();
            x.exitIn(0);
            x.fairSwing();
            x.save(i % 2);
            x.undo();
        }
    }
}
