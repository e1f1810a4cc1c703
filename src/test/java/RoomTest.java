import com.sun.management.ThreadMXBean;
import java.lang.management.ManagementFactory;

/** All calls of a run live in one room: what an object needs is made in its constructor, no call makes more. */
public final class RoomTest {
    private static final Checks CHECKS = new Checks("RoomTest");
    private static final ThreadMXBean THREADS = (ThreadMXBean) ManagementFactory.getThreadMXBean();
    private static final int TRIES = 10;

    public static void main(String[] args) {
        // The machine may make objects of its own in a first try, but it does not in each of them.
        long least = Long.MAX_VALUE;
        for (int i = 0; i < TRIES; i++) {
            least = Math.min(least, bytesOfCalls(new JobBoard(i % 2)));
        }
        CHECKS.isTrue("no call makes an object: " + least + " bytes", least == 0);
        CHECKS.end();
    }

    private static long bytesOfCalls(JobBoard x) {
        long before = THREADS.getCurrentThreadAllocatedBytes();
        for (int round = 0; round < 12; round++) {
            useEveryCall(x, round);
        }
        return THREADS.getCurrentThreadAllocatedBytes() - before;
    }

    private static void useEveryCall(JobBoard x, int round) {
        x.queue(round % 4, 3, 5, 10);
        int callback = x.hold(1, 2);
        x.key(round);
        int job = x.submit(0, 4, 0, 2, 10);
        x.submit(2, 4, 5, 0, 10);
        x.submit(0, 4, 0, 0, 1);
        x.join(job, callback);
        x.seal(callback);
        x.take(0, 30);
        x.take(1, 30);
        x.take(2, 2);
        x.ack(0);
        x.fail(1);
        x.tick(7);
        x.kill(x.line(0, 0));
        x.revive(job);
        x.state(job);
        x.failures(job);
        x.due(job);
        x.holding(2);
        x.count(11);
        if (round % 5 == 4) {
            x.flush();
        }
        if (round % 3 == 2) {
            x.crash(round);
        }
    }
}
