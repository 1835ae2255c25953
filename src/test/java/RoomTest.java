import java.lang.management.ManagementFactory;

/**
 * All calls of one run live in one room: a new object takes little of it, and no call that is
 * answered takes any.
 */
public final class RoomTest {
    private static final long ROOM_OF_A_NEW_ONE = 400_000;
    /** What the machine itself may make on the side. */
    private static final long ROOM_OF_ALL_CALLS = 200_000;

    public static void main(String[] arguments) {
        SharedPalimpsest[] made = new SharedPalimpsest[3];
        for (int i = 0; i < made.length; i++) {
            long start = taken();
            made[i] = new SharedPalimpsest();
            long ofNewOne = taken() - start;
            dearRun(made[i]);
            long ofCalls = taken() - start - ofNewOne;
            // The first round is the machine's own: it loads what it needs.
            if (i > 0) {
                Check.same("bytes of a new object: " + ofNewOne,
                        ofNewOne < ROOM_OF_A_NEW_ONE, true);
                Check.same("bytes of 510 calls: " + ofCalls, ofCalls < ROOM_OF_ALL_CALLS, true);
            }
        }
        Check.end("RoomTest");
    }

    private static long taken() {
        return ((com.sun.management.ThreadMXBean) ManagementFactory.getThreadMXBean())
                .getThreadAllocatedBytes(Thread.currentThread().getId());
    }

    /** 510 calls: six writers, the longest texts, and then the dearest answers. */
    private static void dearRun(SharedPalimpsest x) {
        for (int i = 0; i < 5; i++) {
            x.join(i);
        }
        for (int i = 0; i < 108; i++) {
            x.type(i % 6, 0, 25, 6);
        }
        for (int i = 0; i < 12; i++) {
            x.mark(i % 6, 0, 12, i % 3, true);
        }
        for (int from = 0; from < 6; from++) {
            for (int to = 0; to < 6; to++) {
                if (from != to) {
                    x.repeat(from, to, 0);
                    x.wouldKnow(to, from);
                    x.catchUp(from, to);
                }
            }
        }
        for (int i = 0; i < 59; i++) {
            x.digest();
            x.apart(i % 6, (i + 1) % 6);
            x.areAlike(i % 6, (i + 1) % 6);
            x.lengthIn(i % 6, i);
            x.lengthOfAll(i % 6);
        }
    }
}
