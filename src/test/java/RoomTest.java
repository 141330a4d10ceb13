import java.lang.management.ManagementFactory;

/** All calls of a run live in one room: busy time must use its rings and notes again. */
public final class RoomTest {
    /** Without using them again it would be some 2,000,000: a ring or a note takes some 48. */
    private static final long MOST_BYTES = 100_000;

    public static void main(String[] args) {
        com.sun.management.ThreadMXBean threads =
            (com.sun.management.ThreadMXBean) ManagementFactory.getThreadMXBean();
        busyRun();
        long before = threads.getCurrentThreadAllocatedBytes();
        int heard = busyRun();
        long bytes = threads.getCurrentThreadAllocatedBytes() - before;
        Check.same("many rings: " + heard, heard > 30_000 ? 1 : 0, 1);
        Check.same("in little room: " + bytes, bytes < MOST_BYTES ? 1 : 0, 1);
        Check.end();
    }

    private static int busyRun() {
        DoorbellChoir x = new DoorbellChoir();
        for (int i = 0; i < 16; i++) {
            x.moveIn(i, 9);
        }
        int calls = 16;
        for (int i = 0; i < 16; i++) {
            for (int k = 0; k < 2; k++) {
                x.addHabit(i);
                x.setWhat(i, k, k == 0 ? 5 : 4, (i + 5) % 16, 1 + i * 6, 1);
            }
            x.setWhen(i, 0, 0, 23, 2, 1);
            calls += 5;
        }
        int heard = 0;
        for (; calls + 6 <= 512; calls += 6) {
            x.ring(calls % 16);
            heard += x.pass(1000);
            x.best();
            x.reach(calls % 16);
            x.digest();
            x.emptySongs();
        }
        return heard;
    }
}
