import java.util.function.Consumer;

/**
 * Every answer below 0 that the document gives for another reason than a number out of its range: it is
 * given, and the call has changed nothing.
 */
public final class RefusalTest {
    private static final Checks CHECKS = new Checks("RefusalTest");
    private static final Twins TWINS = new Twins(CHECKS);
    private static final int[] LIVE = {JobBoard.SCHEDULED, JobBoard.READY, JobBoard.RESERVED, JobBoard.RETRYING,
        JobBoard.HELD};
    private static final int[] NOT_LIVE = {JobBoard.DONE, JobBoard.DEAD, JobBoard.GONE};

    public static void main(String[] args) {
        busyBoardsHaveEveryState();
        Past[] pasts = {Past.busy(0), Past.busy(1), Past.full()};
        for (Past past : pasts) {
            joinOfAJobThatIsNotLive(past);
            joinOfAJobThatHasACallback(past);
            joinToACallbackThatIsNotHeld(past);
            joinToItself(past);
            sealOfAJobThatIsNotHeld(past);
            sealOfASealedJob(past);
            takeByAWorkerThatHasAJob(past);
            takeWithoutAnOpenQueue(past);
            ackAndFailWithoutAJob(past);
            reviveOfAJobThatIsNotDead(past);
            killOfAnyOtherState(past);
            nothingToRead(past);
        }
        submitOfAKeyThatALiveJobHas();
        reviveOfAKeyThatALiveJobHas();
        fullBoard();
        emptyBoard();
        CHECKS.end();
    }

    private static void refused(String what, Past past, int want, Twins.Call call) {
        TWINS.refused(what, past, want, call);
    }

    private static int jobIn(Past past, int state) {
        return Past.jobIn(past.board(), state);
    }

    /** The tests below stand on these boards. */
    private static void busyBoardsHaveEveryState() {
        for (int mode = 0; mode <= 1; mode++) {
            JobBoard x = Past.busy(mode).board();
            for (int state = 0; state < Past.STATES; state++) {
                CHECKS.isTrue("mode " + mode + ": a job in state " + state, x.count(state) > 0);
            }
            CHECKS.due("mode " + mode + ": records not flushed", x.count(9), 5);
            CHECKS.isTrue("mode " + mode + ": a bucket with some tokens", x.count(11) > 0 && x.count(11) < 6);
        }
        CHECKS.due("jobs of the full board", Past.full().board().count(8), Past.ALL_JOBS);
        CHECKS.isTrue("the full board has records that are not flushed", Past.full().board().count(9) > 0);
    }

    /** "The job is not LIVE [..]: REFUSED." */
    private static void joinOfAJobThatIsNotLive(Past past) {
        int callback = jobIn(past, JobBoard.HELD);
        for (int state : NOT_LIVE) {
            int job = jobIn(past, state);
            refused("join of a job in state " + state, past, JobBoard.REFUSED, x -> x.join(job, callback));
        }
    }

    /** "The job [..] has a callback [..]: REFUSED." */
    private static void joinOfAJobThatHasACallback(Past past) {
        int job = jobIn(past, JobBoard.READY);
        int callback = jobIn(past, JobBoard.HELD);
        Past joined = past.then("joined", x -> x.join(job, callback));
        refused("a second join to the same", joined, JobBoard.REFUSED, x -> x.join(job, callback));
        refused("a second join to another", joined, JobBoard.REFUSED, x -> x.join(job, callback + 1));
        CHECKS.due("the other one would do", past.board().join(job, callback + 1), JobBoard.OK);
    }

    /** "The callback is not HELD [..]: REFUSED." */
    private static void joinToACallbackThatIsNotHeld(Past past) {
        int job = jobIn(past, JobBoard.HELD);
        for (int state = 0; state < Past.STATES; state++) {
            int callback = jobIn(past, state);
            if (state != JobBoard.HELD) {
                refused("join to a job in state " + state, past, JobBoard.REFUSED, x -> x.join(job, callback));
            }
        }
    }

    /** "Both are the same: REFUSED." */
    private static void joinToItself(Past past) {
        for (int state : LIVE) {
            int job = jobIn(past, state);
            refused("join to itself in state " + state, past, JobBoard.REFUSED, x -> x.join(job, job));
        }
    }

    /** "It is not HELD [..]: REFUSED." */
    private static void sealOfAJobThatIsNotHeld(Past past) {
        for (int state = 0; state < Past.STATES; state++) {
            int job = jobIn(past, state);
            if (state != JobBoard.HELD) {
                refused("seal in state " + state, past, JobBoard.REFUSED, x -> x.seal(job));
            }
        }
    }

    /** "It is [..] SEALED: REFUSED." */
    private static void sealOfASealedJob(Past past) {
        int callback = jobIn(past, JobBoard.HELD);
        int member = jobIn(past, JobBoard.SCHEDULED);
        Past sealed = past.then("sealed", x -> {
            x.join(member, callback);
            x.seal(callback);
        });
        CHECKS.due("it is still HELD", sealed.board().state(callback), JobBoard.HELD);
        refused("a second seal", sealed, JobBoard.REFUSED, x -> x.seal(callback));
    }

    /** "It has one: REFUSED." */
    private static void takeByAWorkerThatHasAJob(Past past) {
        refused("a second take", past, JobBoard.REFUSED, x -> x.take(0, 50));
        Past paused = past.then("paused", RefusalTest::pauseAll);
        refused("a second take without an OPEN queue", paused, JobBoard.REFUSED, x -> x.take(0, 50));
    }

    private static void pauseAll(JobBoard x) {
        for (int q = 0; q <= 3; q++) {
            x.queue(q, 0, 5, 10);
        }
    }

    /** "No queue is OPEN: NONE.", for each of the three reasons and for all of them at once. */
    private static void takeWithoutAnOpenQueue(Past past) {
        takeOfNone(past.then("every queue paused", RefusalTest::pauseAll), true);
        takeOfNone(past.then("no job READY", RefusalTest::killTheLines), false);
        takeOfNone(past.then("no token left", RefusalTest::spendAllTokens), true);
        takeOfNone(past.then("closed for three reasons", x -> {
            killTheLine(x, 1);
            spendAllTokens(x);
            x.queue(0, 0, 0, 1);
        }), true);
    }

    private static void takeOfNone(Past past, boolean someAreReady) {
        CHECKS.isTrue("some are READY on " + past.name() + ": " + someAreReady,
                past.board().count(JobBoard.READY) > 0 == someAreReady);
        refused("take", past, JobBoard.NONE, x -> x.take(4, 50));
    }

    private static void killTheLines(JobBoard x) {
        for (int q = 0; q <= 3; q++) {
            killTheLine(x, q);
        }
    }

    private static void killTheLine(JobBoard x, int q) {
        int job = x.line(q, 0);
        while (job >= 0) {
            x.kill(job);
            job = x.line(q, 0);
        }
    }

    /** Each queue with a READY job gets one token, and worker 4 takes and acks until none is left. */
    private static void spendAllTokens(JobBoard x) {
        for (int q = 0; q <= 3; q++) {
            if (x.line(q, 0) >= 0) {
                x.queue(q, 1, 1, 50);
                x.take(4, 50);
                x.ack(4);
            }
        }
        for (int q = 0; q <= 3; q++) {
            x.take(4, 50);
            x.ack(4);
        }
    }

    /** "w has none: REFUSED." */
    private static void ackAndFailWithoutAJob(Past past) {
        int[] idle = {1, 2, 4, 5};
        for (int w : idle) {
            CHECKS.due("worker " + w + " has none", past.board().holding(w), JobBoard.NONE);
            refused("ack(" + w + ")", past, JobBoard.REFUSED, x -> x.ack(w));
            refused("fail(" + w + ")", past, JobBoard.REFUSED, x -> x.fail(w));
        }
        losesItsJob(past.then("acked", x -> x.ack(0)));
        losesItsJob(past.then("failed", x -> x.fail(0)));
        losesItsJob(past.then("expired", x -> x.tick(100)));
        losesItsJob(past.then("crashed", x -> x.crash(5)));
    }

    private static void losesItsJob(Past past) {
        refused("ack", past, JobBoard.REFUSED, x -> x.ack(0));
        refused("fail", past, JobBoard.REFUSED, x -> x.fail(0));
    }

    /** "It is not DEAD: REFUSED." */
    private static void reviveOfAJobThatIsNotDead(Past past) {
        for (int state = 0; state < Past.STATES; state++) {
            int job = jobIn(past, state);
            if (state != JobBoard.DEAD) {
                refused("revive in state " + state, past, JobBoard.REFUSED, x -> x.revive(job));
            }
        }
    }

    /** "It has a key that a LIVE job has: DUPLICATE.", also on a full board: a revive makes no job. */
    private static void reviveOfAKeyThatALiveJobHas() {
        int first = Past.busy(0).board().count(8);
        Past twice = Past.busy(0).then("one key twice", x -> {
            x.key(31);
            x.submit(0, 0, 0, 0, 1);
            x.kill(first);
            x.key(31);
            x.submit(0, 0, 7, 0, 1);
        });
        Past[] pasts = {twice, twice.filled()};
        for (Past past : pasts) {
            CHECKS.due("the first one is DEAD", past.board().state(first), JobBoard.DEAD);
            refused("revive of a key that is taken", past, JobBoard.DUPLICATE, x -> x.revive(first));
            refused("revive of the LIVE job with that key", past, JobBoard.REFUSED, x -> x.revive(first + 1));
        }
    }

    /** "Any other state: REFUSED." */
    private static void killOfAnyOtherState(Past past) {
        int[] others = {JobBoard.RESERVED, JobBoard.DONE, JobBoard.DEAD, JobBoard.GONE};
        for (int state : others) {
            int job = jobIn(past, state);
            refused("kill in state " + state, past, JobBoard.REFUSED, x -> x.kill(job));
        }
    }

    /** The NONE of due, holding and line. */
    private static void nothingToRead(Past past) {
        int[] withoutDue = {JobBoard.READY, JobBoard.DONE, JobBoard.DEAD, JobBoard.GONE};
        for (int state : withoutDue) {
            int job = jobIn(past, state);
            refused("due in state " + state, past, JobBoard.NONE, x -> x.due(job));
        }
        refused("holding of a worker that has none", past, JobBoard.NONE, x -> x.holding(4));
        int[] places = {-1, Past.ALL_JOBS, Integer.MIN_VALUE, Integer.MAX_VALUE};
        for (int k : places) {
            refused("line(1, " + k + ")", past, JobBoard.NONE, x -> x.line(1, k));
        }
    }

    /** "A LIVE job has the same key: DUPLICATE.", for each state that a LIVE job with a key can have. */
    private static void submitOfAKeyThatALiveJobHas() {
        duplicate("SCHEDULED", x -> submitWithKey(x, 50));
        duplicate("READY", x -> submitWithKey(x, 0));
        duplicate("RESERVED", x -> {
            submitWithKey(x, 0);
            x.take(0, 50);
        });
        duplicate("RETRYING", x -> {
            submitWithKey(x, 0);
            x.take(0, 50);
            x.fail(0);
        });
        duplicate("revived", x -> {
            submitWithKey(x, 0);
            x.kill(0);
            x.revive(0);
        });
    }

    private static void submitWithKey(JobBoard x, int delay) {
        x.key(30);
        x.submit(0, 9, delay, 3, 20);
    }

    private static void duplicate(String state, Consumer<JobBoard> calls) {
        Past past = Past.empty().then("the key being that of a " + state + " job", calls.andThen(x -> x.key(30)));
        refused("submit", past, JobBoard.DUPLICATE, x -> x.submit(1, 0, 0, 0, 1));
        refused("submit with a delay", past, JobBoard.DUPLICATE, x -> x.submit(1, 0, 9, 0, 1));
    }

    /** "40 jobs: FULL." */
    private static void fullBoard() {
        Past full = Past.full();
        refused("submit with a key", full, JobBoard.FULL, x -> x.submit(0, 0, 0, 0, 1));
        refused("hold", full, JobBoard.FULL, x -> x.hold(0, 0));
        Past keyless = full.then("no key waiting", x -> x.key(-1));
        refused("submit without a key", keyless, JobBoard.FULL, x -> x.submit(0, 0, 0, 0, 1));
        Past taken = full.then("a taken key waiting", x -> x.key(5));
        refused("submit with a taken key", taken, JobBoard.DUPLICATE, x -> x.submit(0, 0, 0, 0, 1));
        refused("hold beside a taken key", taken, JobBoard.FULL, x -> x.hold(0, 0));
    }

    private static void emptyBoard() {
        Past empty = Past.empty();
        for (int worker = 0; worker <= 5; worker++) {
            int w = worker;
            refused("take(" + w + ", 1)", empty, JobBoard.NONE, x -> x.take(w, 1));
            refused("ack(" + w + ")", empty, JobBoard.REFUSED, x -> x.ack(w));
            refused("fail(" + w + ")", empty, JobBoard.REFUSED, x -> x.fail(w));
            refused("holding(" + w + ")", empty, JobBoard.NONE, x -> x.holding(w));
        }
        for (int queue = 0; queue <= 3; queue++) {
            int q = queue;
            refused("line(" + q + ", 0)", empty, JobBoard.NONE, x -> x.line(q, 0));
        }
    }
}
