import java.lang.management.ManagementFactory;

/** All calls of a run share one room, so a run of the dearest calls may make little. */
public final class RoomTest {
    /** Far below the room: 7.3 million fields and elements are some 30 million bytes as ints. */
    private static final long MOST_BYTES = 400_000;

    public static void main(String[] args) {
        long warm = bytesOfRun();
        long bytes = bytesOfRun();
        System.out.println(bytes + " bytes in a run of " + Calls.MOST_CALLS + " calls (" + warm + " in the first)");
        Calls.check(bytes > 0 && bytes <= MOST_BYTES, "a run makes more than " + MOST_BYTES + " bytes");
        Calls.end();
    }

    private static long bytesOfRun() {
        com.sun.management.ThreadMXBean threads = (com.sun.management.ThreadMXBean) ManagementFactory.getThreadMXBean();
        long before = threads.getThreadAllocatedBytes(Thread.currentThread().getId());
        run();
        return threads.getThreadAllocatedBytes(Thread.currentThread().getId()) - before;
    }

    /** All heads and marks, as many entries as there can be, then builds, acts and what looks at most. */
    private static void run() {
        BackIndex x = new BackIndex();
        int calls = 0;
        for (int h = 0; h < 30; h++, calls += 3) {
            x.unname();
            x.name('a' << 8 | 'A' + h, 2);
            x.head();
        }
        for (int m = 0; m < 50; m++, calls++) {
            x.mark(0, m % 6, m % 30, (m + m / 30) % 30, (m + 7) % 30, 1 + m);
        }
        Calls.check(x.build(0, 1, 1) == 130, "there are not as many entries as there can be");
        for (calls++; calls < Calls.MOST_CALLS; calls += 4) {
            x.put(0, 1);
            x.build(calls % 2, 0, 0);
            x.changed();
            x.undo();
        }
    }
}
