import java.util.Random;

/** No call ever throws or fails to end, for any arguments in any state, even after the 512th call. */
public final class EndlessTest {
    private static final int CALLS = 300_000;
    private static final Checks CHECKS = new Checks("EndlessTest");
    private static final Random RANDOM = new Random(7);

    public static void main(String[] args) {
        for (int mode = 0; mode < 2; mode++) {
            JobBoard x = new JobBoard(mode);
            for (int i = 0; i < CALLS; i++) {
                CHECKS.isTrue("an answer is -4 or more", call(x) >= JobBoard.NONE);
            }
        }
        timeThatRunsOver();
        CHECKS.end();
    }

    private static int any(int greatest) {
        return RANDOM.nextInt(30) == 0 ? RANDOM.nextInt() : RANDOM.nextInt(greatest + 2) - 1;
    }

    private static int call(JobBoard x) {
        switch (RANDOM.nextInt(24)) {
            case 0: return x.queue(any(4), any(9), any(21), any(51));
            case 1: return x.key(any(32));
            case 2: return x.submit(any(4), any(10), any(40), any(6), any(51));
            case 3: return x.submit(any(4), any(10), 0, any(6), any(51));
            case 4: return x.hold(any(4), any(10));
            case 5: return x.join(any(41), any(41));
            case 6: return x.seal(any(41));
            case 7: return x.ack(any(6));
            case 8: return x.fail(any(6));
            case 9: return x.tick(RANDOM.nextInt(20));
            case 10: return x.revive(any(41));
            case 11: return x.kill(any(41));
            case 12: return x.flush();
            case 13: return x.crash(any(17));
            case 14: return x.state(any(41));
            case 15: return x.failures(any(41));
            case 16: return x.due(any(41));
            case 17: return x.holding(any(6));
            case 18: return x.line(any(4), any(41));
            case 19: return x.count(any(16));
            default: return x.take(any(6), any(101));
        }
    }

    /** What these calls answer is free, but each of them ends. */
    private static void timeThatRunsOver() {
        JobBoard x = new JobBoard(0);
        x.queue(0, 1, 20, 7);
        for (int i = 0; i < 20; i++) {
            x.submit(i % 4, 0, 1000, 5, 50);
        }
        for (int i = 0; i < 2_200_000; i++) {
            x.tick(1000);
            x.take(i % 6, 100);
        }
        CHECKS.isTrue("time ran over", x.count(10) < 0);
        x.crash(3);
        CHECKS.due("the jobs are there", x.count(8), 20);
    }
}
