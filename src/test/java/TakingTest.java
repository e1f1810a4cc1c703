/** Promises 8 and 10: take, fail. */
public final class TakingTest {
    private static final Checks CHECKS = new Checks("TakingTest");

    public static void main(String[] args) {
        takeRanges();
        takeReserves();
        takeFollowsTheLine();
        strictTakesTheLeastNumber();
        weightsShareTheWorkers();
        closedQueuesGetNoCredit();
        creditsAreKeptWhenNothingIsOpen();
        tokensLimit();
        failRefusals();
        delaysGrow();
        delayIsAtMost500();
        limitZeroIsDeadAtOnce();
        shortestAndLongestLease();
        greatestWeights();
        sumOfOpenQueuesAlone();
        lastTokenAndLastJob();
        failOfEachWorker();
        CHECKS.end();
    }

    private static void takeRanges() {
        JobBoard x = new JobBoard(0);
        x.submit(0, 0, 0, 0, 1);
        x.submit(0, 0, 0, 0, 1);
        int[][] bad = {{-1, 1}, {6, 1}, {0, 0}, {0, 101}, {0, -1}, {Integer.MAX_VALUE, 1}, {0, Integer.MIN_VALUE}};
        for (int[] a : bad) {
            CHECKS.due("take out of a range", x.take(a[0], a[1]), JobBoard.REFUSED);
        }
        CHECKS.due("take(0, 1)", x.take(0, 1), 0);
        CHECKS.due("take(5, 100)", x.take(5, 100), 1);
        CHECKS.due("a worker with a job, nothing READY", x.take(0, 1), JobBoard.REFUSED);
        CHECKS.due("a worker without, nothing READY", x.take(1, 1), JobBoard.NONE);
        CHECKS.due("out of range, nothing READY", x.take(1, 0), JobBoard.REFUSED);
        CHECKS.due("records of takes that took", x.count(9), 4);
    }

    private static void takeReserves() {
        JobBoard x = new JobBoard(0);
        x.tick(4);
        x.submit(0, 0, 0, 0, 1);
        CHECKS.due("take", x.take(3, 100), 0);
        CHECKS.due("RESERVED", x.state(0), JobBoard.RESERVED);
        CHECKS.due("deadline", x.due(0), 104);
        CHECKS.due("holding", x.holding(3), 0);
        CHECKS.line("out of the line", x, 0);
        CHECKS.due("no capacity, no tokens", x.count(11), 0);
    }

    private static void takeFollowsTheLine() {
        JobBoard x = new JobBoard(0);
        int[] priorities = {2, 9, 0, 2, 9, 5};
        for (int priority : priorities) {
            x.submit(1, priority, 0, 0, 1);
        }
        int[] order = {1, 4, 5, 0, 3, 2};
        CHECKS.line("by priority, then by time", x, 1, order);
        for (int w = 0; w < order.length; w++) {
            CHECKS.due("take by worker " + w, x.take(w, 9), order[w]);
        }
    }

    private static void strictTakesTheLeastNumber() {
        JobBoard x = new JobBoard(1);
        x.queue(3, 8, 0, 1);
        x.queue(1, 1, 1, 50);
        for (int q = 3; q >= 0; q--) {
            x.submit(q, q, 0, 0, 1);
            x.submit(q, q, 0, 0, 1);
        }
        x.queue(0, 0, 0, 1);
        CHECKS.due("queue 0 is paused", x.take(0, 9), 4);
        CHECKS.due("queue 1 has no token", x.take(1, 9), 2);
        CHECKS.due("queue 2 again", x.take(2, 9), 3);
        CHECKS.due("queue 2 is empty", x.take(3, 9), 0);
        x.queue(0, 1, 0, 1);
        CHECKS.due("queue 0 goes on", x.take(4, 9), 6);
        CHECKS.due("queue 1 lost its token", x.count(12), 0);
    }

    /** Takes and acks once; answers the queue, each job's queue being known by its number. */
    private static int servedQueue(JobBoard x, int[] queueOf) {
        int job = x.take(0, 100);
        if (job < 0) {
            return job;
        }
        x.ack(0);
        return queueOf[job];
    }

    private static void weightsShareTheWorkers() {
        JobBoard x = new JobBoard(0);
        x.queue(0, 5, 0, 1);
        x.queue(1, 1, 0, 1);
        x.queue(2, 1, 0, 1);
        int[] queueOf = new int[21];
        for (int i = 0; i < 21; i++) {
            queueOf[i] = i % 3;
            x.submit(i % 3, 0, 0, 0, 1);
        }
        // 5 : 1 : 1, smoothly; after 7 all credits are 0 again, then queue 0 has two jobs left.
        int[] order = {0, 0, 1, 0, 2, 0, 0, 0, 0, 1};
        for (int i = 0; i < order.length; i++) {
            CHECKS.due("take " + i, servedQueue(x, queueOf), order[i]);
        }
    }

    private static void closedQueuesGetNoCredit() {
        JobBoard x = new JobBoard(0);
        int[] queueOf = {0, 0, 0, 1, 1, 1};
        x.queue(1, 8, 0, 1);
        for (int i = 0; i < 3; i++) {
            x.submit(0, 0, 0, 0, 1);
        }
        CHECKS.due("queue 1 is empty", servedQueue(x, queueOf), 0);
        CHECKS.due("queue 1 is still empty", servedQueue(x, queueOf), 0);
        for (int i = 0; i < 3; i++) {
            x.submit(1, 0, 0, 0, 1);
        }
        // Queue 0: 0 + 1 - 1 each time; now 1 against 8, then 2 against 7 (8 - 9 + 8).
        CHECKS.due("queue 1 has 8", servedQueue(x, queueOf), 1);
        x.queue(1, 1, 0, 1);
        CHECKS.due("queue 0 kept its credit: 2 against 1", servedQueue(x, queueOf), 0);
        CHECKS.due("queue 0 is empty", servedQueue(x, queueOf), 1);
    }

    private static void creditsAreKeptWhenNothingIsOpen() {
        JobBoard x = new JobBoard(0);
        int[] queueOf = {0, 1, 0, 1};
        x.submit(0, 0, 0, 0, 1);
        x.submit(1, 0, 0, 0, 1);
        CHECKS.due("first", servedQueue(x, queueOf), 0);
        CHECKS.due("second", servedQueue(x, queueOf), 1);
        // Queue 0: 1 - 2 = -1; queue 1: 1, then 1 + 1 - 1 = 1.
        int unflushed = x.count(9);
        for (int i = 0; i < 5; i++) {
            CHECKS.due("nothing is OPEN", servedQueue(x, queueOf), JobBoard.NONE);
        }
        CHECKS.due("NONE puts no record", x.count(9), unflushed);
        x.submit(0, 0, 0, 0, 1);
        x.submit(1, 0, 0, 0, 1);
        CHECKS.due("queue 1 has more credit", servedQueue(x, queueOf), 1);
    }

    private static void tokensLimit() {
        JobBoard x = new JobBoard(0);
        x.queue(0, 8, 1, 50);
        for (int i = 0; i < 4; i++) {
            x.submit(i % 2, 0, 0, 0, 1);
        }
        CHECKS.due("a token", x.take(0, 100), 0);
        CHECKS.due("none left", x.count(11), 0);
        CHECKS.due("queue 0 is not OPEN", x.take(1, 100), 1);
        CHECKS.due("queue 0 is not OPEN still", x.take(2, 100), 3);
        CHECKS.due("a READY job without a token", x.take(3, 100), JobBoard.NONE);
        CHECKS.due("tokens do not fall below 0", x.count(11), 0);
        x.tick(50);
        CHECKS.due("a token again", x.take(3, 100), 2);
    }

    private static void failRefusals() {
        JobBoard x = new JobBoard(0);
        x.submit(0, 0, 0, 2, 1);
        x.take(2, 5);
        int[] bad = {-1, 6, 0, 5, Integer.MIN_VALUE, Integer.MAX_VALUE};
        for (int w : bad) {
            CHECKS.due("fail(" + w + ")", x.fail(w), JobBoard.REFUSED);
        }
        CHECKS.due("no failures", x.failures(0), 0);
        CHECKS.due("no record", x.count(9), 2);
        CHECKS.due("fail", x.fail(2), 0);
        CHECKS.due("a record", x.count(9), 3);
        CHECKS.due("a failure", x.failures(0), 1);
        CHECKS.due("the worker has none", x.holding(2), JobBoard.NONE);
        CHECKS.due("fail again", x.fail(2), JobBoard.REFUSED);
    }

    private static void delaysGrow() {
        JobBoard x = new JobBoard(0);
        x.submit(0, 0, 0, 5, 3);
        int[] delays = {3, 6, 12, 24, 48};
        for (int i = 0; i < delays.length; i++) {
            x.take(0, 100);
            x.tick(1);
            x.fail(0);
            CHECKS.due("RETRYING", x.state(0), JobBoard.RETRYING);
            CHECKS.due("failures", x.failures(0), i + 1);
            CHECKS.due("due after failure " + (i + 1), x.due(0), x.count(10) + delays[i]);
            CHECKS.due("not yet", x.tick(delays[i] - 1), 0);
            CHECKS.due("READY again", x.tick(1), 1);
        }
        x.take(0, 100);
        x.fail(0);
        CHECKS.due("the sixth failure is more than the limit", x.state(0), JobBoard.DEAD);
        CHECKS.due("its failures", x.failures(0), 6);
        CHECKS.due("no due", x.due(0), JobBoard.NONE);
    }

    private static void delayIsAtMost500() {
        JobBoard x = new JobBoard(0);
        x.submit(0, 0, 0, 5, 50);
        int[] delays = {50, 100, 200, 400, 500};
        for (int delay : delays) {
            x.take(0, 100);
            x.fail(0);
            CHECKS.due("delay", x.due(0) - x.count(10), delay);
            x.tick(delay);
        }
        JobBoard y = new JobBoard(0);
        y.submit(0, 0, 0, 5, 31);
        int last = 0;
        for (int i = 0; i < 5; i++) {
            y.take(0, 100);
            y.fail(0);
            last = y.due(0) - y.count(10);
            y.tick(last);
        }
        CHECKS.due("31 * 16 is below 500", last, 496);
    }

    private static void limitZeroIsDeadAtOnce() {
        JobBoard x = new JobBoard(0);
        x.submit(0, 0, 0, 0, 1);
        x.submit(0, 0, 0, 1, 1);
        x.take(0, 5);
        x.take(1, 5);
        x.fail(0);
        x.fail(1);
        CHECKS.due("limit 0", x.state(0), JobBoard.DEAD);
        CHECKS.due("limit 1", x.state(1), JobBoard.RETRYING);
    }

    /** "The deadline now + lease", 1 and 100: reserved until just before it. */
    private static void shortestAndLongestLease() {
        JobBoard x = new JobBoard(0);
        Moves.submitMany(x, 0, 2);
        x.tick(3);
        x.take(0, 1);
        x.take(5, 100);
        CHECKS.due("deadline of lease 1", x.due(0), 4);
        CHECKS.due("deadline of lease 100", x.due(1), 103);
        CHECKS.due("the first fails", x.tick(1), 1);
        CHECKS.due("nothing until 102", x.tick(98), 0);
        CHECKS.due("still reserved", x.holding(5), 1);
        CHECKS.due("the second fails at 103", x.tick(1), 1);
        CHECKS.due("reserved no more", x.holding(5), JobBoard.NONE);
    }

    /** All four weights at 8: "its CREDIT falls by the sum of the weights of all OPEN queues", by 32. */
    private static void greatestWeights() {
        JobBoard x = new JobBoard(0);
        for (int q = 0; q <= 3; q++) {
            x.queue(q, 8, 0, 1);
            Moves.submitMany(x, q, 3);
        }
        int[] order = {0, 3, 6, 9, 1, 4, 7, 10, 2, 5, 8, 11};
        for (int job : order) {
            CHECKS.due("in turn", Moves.serve(x), job);
        }
        CHECKS.due("no more", Moves.serve(x), JobBoard.NONE);
    }

    /** The fall counts the OPEN queues alone: neither a paused one, nor an empty one, nor one without tokens. */
    private static void sumOfOpenQueuesAlone() {
        JobBoard x = new JobBoard(0);
        x.queue(0, 8, 1, 50);
        x.queue(1, 8, 0, 1);
        Moves.submitMany(x, 0, 2);
        CHECKS.due("queue 0 spends its token", Moves.serve(x), 0);
        x.queue(2, 2, 0, 1);
        x.queue(3, 3, 0, 1);
        Moves.submitMany(x, 2, 3);
        Moves.submitMany(x, 3, 3);
        // Queues 2 and 3: 2 3 -> 2 -2, 4 1 -> -1 1, 1 4 -> 1 -1, 3 2 -> -2 2, 0 5 -> 0 0.
        int[] order = {5, 2, 6, 3, 7};
        for (int job : order) {
            CHECKS.due("the fall is 5", Moves.serve(x), job);
        }
    }

    /** "A job is READY in it, and its capacity is 0 or it has a token": the last of each is enough. */
    private static void lastTokenAndLastJob() {
        for (int mode = 0; mode <= 1; mode++) {
            JobBoard x = new JobBoard(mode);
            x.queue(1, 1, 2, 50);
            Moves.submitMany(x, 1, 3);
            Moves.submit(x, 2);
            CHECKS.due("one token is spent", x.take(0, 50), 0);
            x.queue(2, 0, 0, 1);
            CHECKS.due("the last token", x.take(1, 50), 1);
            CHECKS.due("no token", x.take(2, 50), JobBoard.NONE);
            x.queue(2, 1, 0, 1);
            CHECKS.due("the last job of queue 2", x.take(2, 50), 3);
            CHECKS.due("no job in queue 2", x.take(3, 50), JobBoard.NONE);
        }
    }

    /** "Worker w's job FAILS.": that of no other worker. */
    private static void failOfEachWorker() {
        JobBoard x = new JobBoard(0);
        Moves.submitMany(x, 0, 6);
        for (int w = 0; w <= 5; w++) {
            x.take(w, 50);
        }
        for (int w = 5; w >= 0; w--) {
            CHECKS.due("fail(" + w + ")", x.fail(w), w);
            CHECKS.due("RESERVED still", x.count(JobBoard.RESERVED), w);
        }
    }
}
