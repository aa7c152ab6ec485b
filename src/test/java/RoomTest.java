import java.lang.management.ManagementFactory;

/** A run of calls stays far below the room of 600000 objects and arrays with 7300000 fields and elements. */
public final class RoomTest {
    private static final int ROOM = 4_000_000;

    public static void main(String[] args) {
        Check.watch();
        Check check = new Check();
        check.part("room");
        // What the machine itself makes when a class is used for the first time doesn't count.
        bytesOfRun();
        check.holds("a run stays below " + ROOM + " bytes", bytesOfRun() < ROOM);
        check.end("RoomTest");
    }

    private static long bytesOfRun() {
        com.sun.management.ThreadMXBean threads = (com.sun.management.ThreadMXBean) ManagementFactory.getThreadMXBean();
        long id = Thread.currentThread().getId();
        long before = threads.getThreadAllocatedBytes(id);
        run(new SwingUnits());
        return threads.getThreadAllocatedBytes(id) - before;
    }

    private static void run(SwingUnits x) {
        x.buy(0, 1000000, 0);
        x.endDay();
        for (int i = 0; i < 60; i++) {
            x.buy(1, 70000, 0);
            x.leave(0, 300, 0);
            x.put(0x643b64L);
            x.carryOut();
            x.exitIn(0);
            x.fairSwing();
            x.save(i % 2);
            x.undo();
        }
    }
}
