/** Promises 1 to 5: a new object, queue, key, submit, hold. */
public final class MakingTest {
    private static final Checks CHECKS = new Checks("MakingTest");

    public static void main(String[] args) {
        newBoardIsEmpty();
        modeOneAloneIsStrict();
        queueRanges();
        queueSetsCreditTokensAndStart();
        keyRanges();
        keyIsUsedOnce();
        keyOfLiveJobsAlone();
        submitRanges();
        submitStates();
        duplicateComesBeforeFull();
        fullBoard();
        holdMakesHeldJobs();
        heldJobHasLimitZero();
        queueSetsThatQueueAlone();
        queueLeavesTheOtherCredits();
        noKeyAtFirst();
        everyKeyIsItsOwn();
        goneKeyIsFree();
        holdHasNoKey();
        lastSubmitOfAFullBoard();
        CHECKS.end();
    }

    private static void newBoardIsEmpty() {
        JobBoard x = new JobBoard(0);
        for (int what = 0; what <= 14; what++) {
            CHECKS.due("new board: count(" + what + ")", x.count(what), 0);
        }
        for (int w = 0; w <= 5; w++) {
            CHECKS.due("new board: holding(" + w + ")", x.holding(w), JobBoard.NONE);
            CHECKS.due("new board: take(" + w + ", 1)", x.take(w, 1), JobBoard.NONE);
        }
        CHECKS.due("new board: flush", x.flush(), 0);
        CHECKS.due("new board: crash", x.crash(0), 0);
    }

    /** Queue 1 is heavier: by weight it is chosen first, by number queue 0. */
    private static int firstTaken(int mode) {
        JobBoard x = new JobBoard(mode);
        x.queue(1, 2, 0, 1);
        x.submit(0, 0, 0, 0, 1);
        x.submit(1, 0, 0, 0, 1);
        return x.take(0, 1);
    }

    private static void modeOneAloneIsStrict() {
        CHECKS.due("mode 1", firstTaken(1), 0);
        int[] others = {0, 2, -1, 3, 257, 65_537, Integer.MIN_VALUE, Integer.MIN_VALUE + 1, Integer.MAX_VALUE};
        for (int mode : others) {
            CHECKS.due("mode " + mode, firstTaken(mode), 1);
        }
    }

    private static void queueRanges() {
        JobBoard x = new JobBoard(0);
        int[][] good = {{0, 0, 0, 1}, {3, 8, 20, 50}, {1, 1, 1, 1}};
        for (int[] a : good) {
            CHECKS.due("queue within its ranges", x.queue(a[0], a[1], a[2], a[3]), JobBoard.OK);
        }
        x.queue(2, 1, 7, 5);
        int[][] bad = {{-1, 1, 3, 1}, {4, 1, 3, 1}, {2, -1, 3, 1}, {2, 9, 3, 1}, {2, 1, -1, 1}, {2, 1, 21, 1},
            {2, 1, 3, 0}, {2, 1, 3, 51}, {2, 1, 3, -1}, {Integer.MIN_VALUE, 1, 3, 1}, {2, Integer.MAX_VALUE, 3, 1}};
        for (int[] a : bad) {
            CHECKS.due("queue out of a range", x.queue(a[0], a[1], a[2], a[3]), JobBoard.REFUSED);
            CHECKS.due("a refused queue leaves the bucket", x.count(13), 7);
        }
        CHECKS.due("queue is no record", x.count(9), 0);
    }

    private static void queueSetsCreditTokensAndStart() {
        JobBoard x = new JobBoard(0);
        for (int i = 0; i < 3; i++) {
            x.submit(0, 0, 0, 0, 1);
            x.submit(1, 0, 0, 0, 1);
        }
        CHECKS.due("equal credits: the least number", x.take(0, 9), 0);
        // Queue 1 now has the greater credit, 1 against -1; set anew it has 0.
        x.queue(1, 1, 0, 1);
        x.queue(0, 1, 0, 1);
        CHECKS.due("credits are 0 again", x.take(1, 9), 2);
        x.tick(7);
        x.queue(0, 1, 2, 10);
        CHECKS.due("tokens are the capacity", x.count(11), 2);
        CHECKS.due("a token is spent", x.take(2, 50), 1);
        CHECKS.due("a token is spent from queue 0", x.take(3, 50), 4);
        CHECKS.due("one is left", x.count(11), 1);
        x.tick(9);
        CHECKS.due("time 16: no moment has passed", x.count(11), 1);
        x.tick(1);
        CHECKS.due("time 17: start + refill", x.count(11), 2);
        x.queue(0, 1, 0, 10);
        CHECKS.due("no capacity: no tokens", x.count(11), 0);
        x.tick(100);
        CHECKS.due("no capacity: never a token", x.count(11), 0);
    }

    private static void keyRanges() {
        JobBoard x = new JobBoard(0);
        int[] bad = {-2, 32, Integer.MIN_VALUE, Integer.MAX_VALUE};
        CHECKS.due("key(31)", x.key(31), JobBoard.OK);
        for (int k : bad) {
            CHECKS.due("key(" + k + ")", x.key(k), JobBoard.REFUSED);
        }
        CHECKS.due("the first job gets key 31", x.submit(0, 0, 0, 0, 1), 0);
        x.key(31);
        CHECKS.due("a refused key left 31 waiting", x.submit(0, 0, 0, 0, 1), JobBoard.DUPLICATE);
        CHECKS.due("key(-1)", x.key(-1), JobBoard.OK);
        CHECKS.due("no key is waiting", x.submit(0, 0, 0, 0, 1), 1);
        CHECKS.due("key(0)", x.key(0), JobBoard.OK);
        CHECKS.due("key 0 is a key", x.submit(0, 0, 0, 0, 1), 2);
        x.key(0);
        CHECKS.due("key 0 is taken", x.submit(0, 0, 0, 0, 1), JobBoard.DUPLICATE);
        CHECKS.due("key is no record", x.count(9), 3);
    }

    private static void keyIsUsedOnce() {
        JobBoard x = new JobBoard(0);
        x.key(5);
        CHECKS.due("hold leaves the waiting key", x.hold(0, 0), 0);
        CHECKS.due("a refused submit", x.submit(0, 0, 0, 0, 0), JobBoard.REFUSED);
        CHECKS.due("submit takes the key", x.submit(0, 0, 0, 0, 1), 1);
        CHECKS.due("the key is not waiting any more", x.submit(0, 0, 0, 0, 1), 2);
        x.key(5);
        CHECKS.due("duplicate", x.submit(0, 0, 0, 0, 1), JobBoard.DUPLICATE);
        CHECKS.due("duplicate, the key still waits", x.submit(0, 0, 0, 0, 1), JobBoard.DUPLICATE);
        CHECKS.due("a duplicate makes no job", x.count(8), 3);
        CHECKS.due("a duplicate puts no record", x.count(9), 3);
        x.key(6);
        CHECKS.due("another key", x.submit(0, 0, 0, 0, 1), 3);
    }

    private static int submitWithKey(JobBoard x, int k, int delay) {
        x.key(k);
        return x.submit(0, 0, delay, 1, 5);
    }

    private static void keyOfLiveJobsAlone() {
        JobBoard x = new JobBoard(0);
        submitWithKey(x, 1, 10);
        CHECKS.due("a SCHEDULED job has it", submitWithKey(x, 1, 0), JobBoard.DUPLICATE);
        x.tick(10);
        CHECKS.due("a READY job has it", submitWithKey(x, 1, 0), JobBoard.DUPLICATE);
        x.take(0, 50);
        CHECKS.due("a RESERVED job has it", submitWithKey(x, 1, 0), JobBoard.DUPLICATE);
        x.fail(0);
        CHECKS.due("a RETRYING job has it", submitWithKey(x, 1, 0), JobBoard.DUPLICATE);
        x.kill(0);
        CHECKS.due("a DEAD job does not hinder", submitWithKey(x, 1, 0), 1);
        x.take(0, 50);
        x.ack(0);
        CHECKS.due("a DONE job does not hinder", submitWithKey(x, 1, 0), 2);
    }

    private static void submitRanges() {
        JobBoard x = new JobBoard(0);
        CHECKS.due("the greatest of all", x.submit(3, 9, 1000, 5, 50), 0);
        CHECKS.due("the least of all", x.submit(0, 0, 0, 0, 1), 1);
        int[][] bad = {{-1, 0, 0, 0, 1}, {4, 0, 0, 0, 1}, {0, -1, 0, 0, 1}, {0, 10, 0, 0, 1}, {0, 0, -1, 0, 1},
            {0, 0, 1001, 0, 1}, {0, 0, 0, -1, 1}, {0, 0, 0, 6, 1}, {0, 0, 0, 0, 0}, {0, 0, 0, 0, 51},
            {0, 0, 0, 0, Integer.MIN_VALUE}, {0, 0, Integer.MAX_VALUE, 0, 1}};
        for (int[] a : bad) {
            CHECKS.due("submit out of a range", x.submit(a[0], a[1], a[2], a[3], a[4]), JobBoard.REFUSED);
        }
        CHECKS.due("no job was made", x.count(8), 2);
        CHECKS.due("no record was put", x.count(9), 2);
        x.key(1);
        x.submit(0, 0, 0, 0, 1);
        x.key(1);
        CHECKS.due("numbers are tested before the key", x.submit(0, 10, 0, 0, 1), JobBoard.REFUSED);
    }

    private static void submitStates() {
        JobBoard x = new JobBoard(0);
        x.tick(3);
        x.submit(2, 4, 0, 0, 1);
        CHECKS.due("delay 0", x.state(0), JobBoard.READY);
        CHECKS.line("delay 0", x, 2, 0);
        x.submit(2, 4, 1, 0, 1);
        CHECKS.due("delay 1", x.state(1), JobBoard.SCHEDULED);
        CHECKS.due("due of delay 1", x.due(1), 4);
        x.submit(2, 4, 1000, 0, 1);
        CHECKS.due("due of delay 1000", x.due(2), 1003);
        CHECKS.due("no failures at first", x.failures(2), 0);
    }

    private static void duplicateComesBeforeFull() {
        JobBoard x = new JobBoard(0);
        x.key(9);
        for (int i = 0; i < 40; i++) {
            x.submit(i % 4, 0, 0, 0, 1);
        }
        CHECKS.due("40 jobs, no key", x.submit(0, 0, 0, 0, 1), JobBoard.FULL);
        x.key(9);
        CHECKS.due("40 jobs, a key that a LIVE job has", x.submit(0, 0, 0, 0, 1), JobBoard.DUPLICATE);
        x.key(8);
        CHECKS.due("40 jobs, another key", x.submit(0, 0, 0, 0, 1), JobBoard.FULL);
        CHECKS.due("40 jobs, out of range", x.submit(0, 0, 0, 0, 0), JobBoard.REFUSED);
    }

    private static void fullBoard() {
        JobBoard x = new JobBoard(0);
        for (int i = 0; i < 40; i++) {
            CHECKS.due("job " + i, i % 2 == 0 ? x.submit(0, 0, 0, 0, 1) : x.hold(0, 0), i);
        }
        int unflushed = x.count(9);
        CHECKS.due("hold on a full board", x.hold(0, 0), JobBoard.FULL);
        CHECKS.due("submit on a full board", x.submit(0, 0, 0, 0, 1), JobBoard.FULL);
        CHECKS.due("hold out of range on a full board", x.hold(4, 0), JobBoard.REFUSED);
        CHECKS.due("still 40 jobs", x.count(8), 40);
        CHECKS.due("no record", x.count(9), unflushed);
        x.take(0, 5);
        x.ack(0);
        CHECKS.due("a DONE job still counts", x.hold(0, 0), JobBoard.FULL);
    }

    private static void holdMakesHeldJobs() {
        JobBoard x = new JobBoard(0);
        CHECKS.due("hold(3, 9)", x.hold(3, 9), 0);
        CHECKS.due("hold(0, 0)", x.hold(0, 0), 1);
        CHECKS.due("its state", x.state(0), JobBoard.HELD);
        CHECKS.due("its members", x.due(0), 0);
        CHECKS.line("it is in no line", x, 3);
        int[][] bad = {{-1, 0}, {4, 0}, {0, -1}, {0, 10}, {Integer.MAX_VALUE, 0}, {0, Integer.MIN_VALUE}};
        for (int[] a : bad) {
            CHECKS.due("hold out of a range", x.hold(a[0], a[1]), JobBoard.REFUSED);
        }
        CHECKS.due("two jobs", x.count(8), 2);
        CHECKS.due("two records", x.count(9), 2);
        x.submit(3, 8, 0, 0, 1);
        x.seal(0);
        CHECKS.line("it has its queue and priority", x, 3, 0, 2);
    }

    private static void heldJobHasLimitZero() {
        JobBoard x = new JobBoard(0);
        x.hold(0, 0);
        x.seal(0);
        x.take(0, 5);
        x.fail(0);
        CHECKS.due("one failure is more than the limit", x.state(0), JobBoard.DEAD);
    }

    /** "Its tokens the capacity", be they more or fewer than before; the other queues stay as they are. */
    private static void queueSetsThatQueueAlone() {
        JobBoard x = new JobBoard(0);
        int[] capacities = {20, 3, 19, 0, 1};
        x.queue(2, 1, 5, 10);
        x.submit(2, 0, 0, 0, 1);
        x.take(0, 50);
        for (int capacity : capacities) {
            x.queue(1, 1, capacity, 10);
            CHECKS.due("tokens of queue 1", x.count(12), capacity);
            CHECKS.due("tokens of queue 2", x.count(13), 4);
        }
        x.queue(2, 1, 5, 10);
        CHECKS.due("the same capacity again fills the bucket", x.count(13), 5);
    }

    /** "Its CREDIT becomes 0": that of queue 0 alone, which stood at -1 beside 1 of queue 1. */
    private static void queueLeavesTheOtherCredits() {
        JobBoard x = new JobBoard(0);
        Moves.submitMany(x, 0, 2);
        Moves.submitMany(x, 1, 2);
        CHECKS.due("queue 0 first", x.take(0, 50), 0);
        x.queue(0, 2, 0, 1);
        CHECKS.due("2 against 2: the least number", x.take(1, 50), 1);
        JobBoard y = new JobBoard(0);
        Moves.submitMany(y, 0, 2);
        Moves.submitMany(y, 1, 2);
        y.take(0, 50);
        y.queue(0, 1, 0, 1);
        CHECKS.due("1 against 2", y.take(1, 50), 2);
    }

    /** "None at first." and "none for k = -1": jobs without a key are no duplicates of one another. */
    private static void noKeyAtFirst() {
        JobBoard x = new JobBoard(0);
        CHECKS.due("without a key", x.submit(0, 0, 0, 0, 1), 0);
        CHECKS.due("without a key again", x.submit(0, 0, 0, 0, 1), 1);
        x.key(0);
        CHECKS.due("key 0 was not given yet", x.submit(0, 0, 0, 0, 1), 2);
        x.key(3);
        x.key(-1);
        CHECKS.due("key(-1) took 3 back", x.submit(0, 0, 0, 0, 1), 3);
        x.key(3);
        CHECKS.due("so 3 is free", x.submit(0, 0, 0, 0, 1), 4);
        x.key(3);
        x.key(4);
        CHECKS.due("the last key counts", x.submit(0, 0, 0, 0, 1), 5);
    }

    /** "k 0 .. 31": all 32 keys can be had at once, and each of them once. */
    private static void everyKeyIsItsOwn() {
        JobBoard x = new JobBoard(0);
        for (int k = 0; k <= 31; k++) {
            CHECKS.due("key(" + k + ")", x.key(k), JobBoard.OK);
            CHECKS.due("its job", x.submit(0, 0, 0, 0, 1), k);
        }
        for (int k = 0; k <= 31; k++) {
            x.key(k);
            CHECKS.due("key " + k + " is taken", x.submit(0, 0, 0, 0, 1), JobBoard.DUPLICATE);
        }
        CHECKS.due("32 jobs", x.count(8), 32);
    }

    /** A GONE job is not LIVE, nor does its key come back. */
    private static void goneKeyIsFree() {
        JobBoard x = new JobBoard(0);
        x.kill(submitWithKey(x, 1, 0));
        Moves.holdAndKill(x, 8);
        CHECKS.due("it is GONE", x.state(0), JobBoard.GONE);
        CHECKS.due("its key is free", submitWithKey(x, 1, 0), 9);
    }

    /** "Without a key": the waiting key neither goes to the HELD job nor hinders it. */
    private static void holdHasNoKey() {
        JobBoard x = new JobBoard(0);
        x.key(5);
        x.submit(0, 0, 0, 0, 1);
        x.key(5);
        CHECKS.due("hold is no duplicate", x.hold(0, 0), 1);
        CHECKS.due("the key still waits", x.submit(0, 0, 0, 0, 1), JobBoard.DUPLICATE);
        x.kill(0);
        CHECKS.due("the HELD job does not have it", x.submit(0, 0, 0, 0, 1), 2);
    }

    /** "40 jobs: FULL.": the 40th job takes its key, the 41st leaves it waiting. */
    private static void lastSubmitOfAFullBoard() {
        JobBoard x = new JobBoard(0);
        Moves.submitMany(x, 0, 39);
        x.key(6);
        CHECKS.due("the 40th", x.submit(3, 9, 1000, 5, 50), 39);
        CHECKS.due("its due time", x.due(39), 1000);
        CHECKS.due("no key waits: FULL", x.submit(0, 0, 0, 0, 1), JobBoard.FULL);
        x.key(6);
        CHECKS.due("its key is taken", x.submit(0, 0, 0, 0, 1), JobBoard.DUPLICATE);
        x.kill(39);
        CHECKS.due("free, but FULL", x.submit(0, 0, 0, 0, 1), JobBoard.FULL);
        CHECKS.due("revive needs no room", x.revive(39), JobBoard.OK);
        CHECKS.due("and the key still waits", x.submit(0, 0, 0, 0, 1), JobBoard.DUPLICATE);
    }
}
