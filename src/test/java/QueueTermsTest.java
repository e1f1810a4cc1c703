/** The section "Terms", its queues and buckets: a test for each sentence that names a first value or a limit. */
public final class QueueTermsTest {
    private static final Checks CHECKS = new Checks("QueueTermsTest");
    private static final int TOKENS_OF_0 = 11;

    public static void main(String[] args) {
        timeIsZeroAtFirst();
        weightIsOneAtFirst();
        creditIsZeroAtFirst();
        weightZeroIsPaused();
        pausedQueueGoesOnWaiting();
        noCapacityIsNoLimit();
        capacityIsTheLimit();
        tokenAtEachMoment();
        momentsCountFromTheStart();
        manyMomentsInOneTick();
        fullBucketGetsNoToken();
        CHECKS.end();
    }

    /** "TIME is a number, 0 at first." */
    private static void timeIsZeroAtFirst() {
        JobBoard x = new JobBoard(0);
        CHECKS.due("time", x.count(10), 0);
        x.submit(0, 0, 1, 0, 1);
        CHECKS.due("due time of delay 1", x.due(0), 1);
    }

    /** "A weight (1 at first)": against a queue of weight 2 it is served once in three. */
    private static void weightIsOneAtFirst() {
        for (int q = 0; q <= 2; q++) {
            JobBoard x = new JobBoard(0);
            x.queue(3, 2, 0, 1);
            Moves.submitMany(x, q, 3);
            Moves.submitMany(x, 3, 6);
            int[] order = {3, 0, 4, 5, 1, 6, 7, 2, 8};
            for (int job : order) {
                CHECKS.due("queue " + q + " of weight 1 beside one of weight 2", Moves.serve(x), job);
            }
        }
    }

    /** "A CREDIT (0 at first)": with equal weights the queues take turns from the least number on. */
    private static void creditIsZeroAtFirst() {
        JobBoard x = new JobBoard(0);
        for (int q = 3; q >= 0; q--) {
            Moves.submitMany(x, q, 2);
        }
        int[] order = {6, 4, 2, 0, 7, 5, 3, 1};
        for (int job : order) {
            CHECKS.due("each in its turn", Moves.serve(x), job);
        }
    }

    /** "0: paused". */
    private static void weightZeroIsPaused() {
        for (int mode = 0; mode <= 1; mode++) {
            JobBoard x = new JobBoard(mode);
            Moves.submit(x, 0);
            Moves.submit(x, 1);
            x.queue(0, 0, 0, 1);
            CHECKS.due("the paused queue is passed over", x.take(0, 50), 1);
            CHECKS.due("nothing else is OPEN", x.take(1, 50), JobBoard.NONE);
            x.queue(0, 1, 0, 1);
            CHECKS.due("weight 1 is not paused", x.take(1, 50), 0);
        }
    }

    /** A pause closes the queue to take alone: its line grows. */
    private static void pausedQueueGoesOnWaiting() {
        JobBoard x = new JobBoard(0);
        x.queue(2, 0, 2, 10);
        Moves.submit(x, 2);
        x.submit(2, 0, 5, 0, 1);
        CHECKS.due("a job becomes READY", x.tick(5), 1);
        CHECKS.line("the paused queue", x, 2, 0, 1);
        CHECKS.due("take", x.take(0, 5), JobBoard.NONE);
        CHECKS.due("no token is lost", x.count(TOKENS_OF_0 + 2), 2);
    }

    /** "A capacity (0 at first: no limit)". */
    private static void noCapacityIsNoLimit() {
        JobBoard x = new JobBoard(0);
        Moves.submitMany(x, 1, 40);
        CHECKS.due("all are served without a token", Moves.serveMany(x, 41), 40);
        CHECKS.due("tokens", x.count(TOKENS_OF_0 + 1), 0);
        JobBoard y = new JobBoard(0);
        y.queue(1, 1, 1, 50);
        y.queue(1, 1, 0, 50);
        Moves.submitMany(y, 1, 40);
        CHECKS.due("no limit again after capacity 0", Moves.serveMany(y, 41), 40);
    }

    private static void capacityIsTheLimit() {
        int[] capacities = {1, 2, 19, 20};
        for (int capacity : capacities) {
            JobBoard x = new JobBoard(0);
            x.queue(3, 1, capacity, 50);
            Moves.submitMany(x, 3, capacity + 1);
            CHECKS.due("tokens at first", x.count(TOKENS_OF_0 + 3), capacity);
            CHECKS.due("as many are served", Moves.serveMany(x, 40), capacity);
            CHECKS.due("no token is left", x.count(TOKENS_OF_0 + 3), 0);
            CHECKS.due("a job is READY", x.line(3, 0), capacity);
            CHECKS.due("the next is not taken", x.take(0, 5), JobBoard.NONE);
        }
    }

    /** A board at that time, whose queue 0 has a bucket of 20 since then, with no token left. */
    private static JobBoard emptiedBucket(int time, int refill) {
        JobBoard x = new JobBoard(0);
        if (time > 0) {
            x.tick(time);
        }
        x.queue(0, 1, 20, refill);
        Moves.submitMany(x, 0, 20);
        CHECKS.due("the bucket is emptied", Moves.serveMany(x, 20), 20);
        return x;
    }

    /** "Whenever time passes a moment start + k * refill, k being 1, 2, .., a token is added". */
    private static void tokenAtEachMoment() {
        int[] refills = {1, 2, 49, 50};
        for (int refill : refills) {
            JobBoard x = emptiedBucket(0, refill);
            for (int k = 1; k <= 3; k++) {
                if (refill > 1) {
                    x.tick(refill - 1);
                    CHECKS.due("just before moment " + k + " of refill " + refill, x.count(TOKENS_OF_0), k - 1);
                }
                x.tick(1);
                CHECKS.due("at moment " + k + " of refill " + refill, x.count(TOKENS_OF_0), k);
            }
        }
    }

    private static void momentsCountFromTheStart() {
        JobBoard x = emptiedBucket(13, 10);
        x.tick(7);
        CHECKS.due("time 20 is no moment", x.count(TOKENS_OF_0), 0);
        x.tick(2);
        CHECKS.due("time 22 is none", x.count(TOKENS_OF_0), 0);
        x.tick(1);
        CHECKS.due("time 23 is the first", x.count(TOKENS_OF_0), 1);
        Moves.submit(x, 0);
        x.tick(4);
        Moves.serve(x);
        CHECKS.due("a take at time 27 does not move the moments", x.count(TOKENS_OF_0), 0);
        x.tick(5);
        CHECKS.due("time 32", x.count(TOKENS_OF_0), 0);
        x.tick(1);
        CHECKS.due("time 33", x.count(TOKENS_OF_0), 1);
    }

    private static void manyMomentsInOneTick() {
        JobBoard x = emptiedBucket(3, 50);
        x.tick(999);
        CHECKS.due("19 moments, the 20th being at 1003", x.count(TOKENS_OF_0), 19);
        x.tick(1);
        CHECKS.due("the 20th", x.count(TOKENS_OF_0), 20);
        JobBoard y = emptiedBucket(0, 1);
        y.tick(1000);
        CHECKS.due("1000 moments, 20 tokens", y.count(TOKENS_OF_0), 20);
    }

    /** "But if there are as many as the capacity": no such moment is made up for later. */
    private static void fullBucketGetsNoToken() {
        JobBoard x = new JobBoard(0);
        x.queue(0, 1, 1, 10);
        Moves.submitMany(x, 0, 3);
        x.tick(35);
        CHECKS.due("full stays full", x.count(TOKENS_OF_0), 1);
        Moves.serve(x);
        CHECKS.due("the moments that passed give nothing", x.count(TOKENS_OF_0), 0);
        CHECKS.due("take", x.take(0, 5), JobBoard.NONE);
        x.tick(5);
        CHECKS.due("the next moment gives one", x.count(TOKENS_OF_0), 1);
        x.tick(10);
        CHECKS.due("and the one after none", x.count(TOKENS_OF_0), 1);
    }
}
