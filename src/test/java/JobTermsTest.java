/** The section "Terms", its jobs and workers: a test for each sentence that names an order, a limit or a last one. */
public final class JobTermsTest {
    private static final Checks CHECKS = new Checks("JobTermsTest");

    public static void main(String[] args) {
        jobsAreNumberedAsTheyAreMade();
        atMostFortyJobs();
        higherPriorityFirst();
        equalPriorityByBecomingReady();
        notLiveIsDoneDeadOrGone();
        deadBeyondTheLimitAlone();
        delayIsTheLesserOf500();
        seventhAndEighthDeadStay();
        ninthDeadByKillFailAndTick();
        severalDieInOneTick();
        othersThatAreDeadAlone();
        workersHaveOneJobOrNone();
        CHECKS.end();
    }

    /** "JOBS are numbered 0, 1, .. as they are made": by submit and hold alike, refused calls not counting. */
    private static void jobsAreNumberedAsTheyAreMade() {
        JobBoard x = new JobBoard(0);
        CHECKS.due("the first", x.hold(3, 0), 0);
        CHECKS.due("a refused one", x.submit(4, 0, 0, 0, 1), JobBoard.REFUSED);
        CHECKS.due("the second", Moves.submit(x, 2), 1);
        x.kill(1);
        CHECKS.due("the third, though one is DEAD", x.hold(0, 9), 2);
    }

    /** "There are at most 40." */
    private static void atMostFortyJobs() {
        JobBoard x = new JobBoard(0);
        Moves.submitMany(x, 0, 39);
        CHECKS.due("the 40th", Moves.submit(x, 0), 39);
        CHECKS.due("no 41st by submit", Moves.submit(x, 0), JobBoard.FULL);
        CHECKS.due("no 41st by hold", x.hold(0, 0), JobBoard.FULL);
        x.crash(0);
        CHECKS.due("lost jobs make room", x.count(8), 32);
        CHECKS.due("33rd", x.hold(0, 0), 32);
    }

    /** "Those of higher priority first": the priorities 0 .. 9 against the order of their coming. */
    private static void higherPriorityFirst() {
        JobBoard x = new JobBoard(0);
        for (int priority = 0; priority <= 9; priority++) {
            x.submit(1, priority, 0, 0, 1);
        }
        CHECKS.line("by priority", x, 1, 9, 8, 7, 6, 5, 4, 3, 2, 1, 0);
    }

    /** "Of equal ones first the one that became READY first", whatever its number. */
    private static void equalPriorityByBecomingReady() {
        JobBoard x = new JobBoard(0);
        x.submit(1, 4, 2, 0, 1);
        x.submit(1, 4, 1, 0, 1);
        x.hold(1, 4);
        x.submit(1, 4, 0, 0, 1);
        x.seal(2);
        x.tick(1);
        x.tick(1);
        CHECKS.line("by becoming READY", x, 1, 3, 2, 1, 0);
        x.kill(3);
        x.revive(3);
        CHECKS.line("READY anew: at the end", x, 1, 2, 1, 0, 3);
    }

    /** "A job is LIVE if it is not DONE, DEAD or GONE.": as seen by its key and by join. */
    private static void notLiveIsDoneDeadOrGone() {
        boolean[] live = {true, true, true, true, false, false, true, false};
        for (int state = 0; state < Past.STATES; state++) {
            JobBoard x = new JobBoard(0);
            int callback = x.hold(3, 0);
            int job = keyedJobIn(x, state);
            CHECKS.due("the state", x.state(job), state);
            if (state != JobBoard.HELD) {
                x.key(7);
                CHECKS.due("its key in state " + state, x.submit(2, 0, 0, 0, 1) == JobBoard.DUPLICATE ? 1 : 0,
                        live[state] ? 1 : 0);
            }
            CHECKS.due("join in state " + state, x.join(job, callback), live[state] ? JobBoard.OK : JobBoard.REFUSED);
        }
    }

    /** Brings a job, with key 7 but for a HELD one, into that state; answers it. */
    private static int keyedJobIn(JobBoard x, int state) {
        x.key(7);
        int job = state == JobBoard.HELD ? x.hold(0, 0) : x.submit(0, 0, state == JobBoard.SCHEDULED ? 9 : 0, 1, 20);
        if (state == JobBoard.RESERVED || state == JobBoard.RETRYING || state == JobBoard.DONE) {
            x.take(0, 50);
        }
        if (state == JobBoard.RETRYING) {
            x.fail(0);
        }
        if (state == JobBoard.DONE) {
            x.ack(0);
        }
        if (state == JobBoard.DEAD || state == JobBoard.GONE) {
            x.kill(job);
        }
        for (int i = 0; state == JobBoard.GONE && i < 8; i++) {
            x.kill(x.hold(0, 0));
        }
        return job;
    }

    /** "If they are more than its limit it becomes DEAD, else RETRYING". */
    private static void deadBeyondTheLimitAlone() {
        for (int limit = 0; limit <= 5; limit++) {
            JobBoard x = new JobBoard(0);
            x.submit(0, 0, 0, limit, 1);
            for (int failures = 1; failures <= limit; failures++) {
                x.take(0, 100);
                x.fail(0);
                CHECKS.due("RETRYING with " + failures + " of " + limit, x.state(0), JobBoard.RETRYING);
                CHECKS.due("failures", x.failures(0), failures);
                x.tick(100);
            }
            x.take(0, 100);
            x.fail(0);
            CHECKS.due("DEAD beyond the limit " + limit, x.state(0), JobBoard.DEAD);
            CHECKS.due("failures beyond the limit", x.failures(0), limit + 1);
        }
    }

    /** "The lesser of 500 and base * 2^(failures - 1)", for every base and number of failures. */
    private static void delayIsTheLesserOf500() {
        for (int base = 1; base <= 50; base++) {
            JobBoard x = new JobBoard(0);
            x.submit(0, 0, 0, 5, base);
            int delay = base;
            for (int failures = 1; failures <= 5; failures++) {
                int want = delay < 500 ? delay : 500;
                x.take(0, 100);
                x.fail(0);
                CHECKS.due("base " + base + ", failures " + failures, x.due(0) - x.count(10), want);
                x.tick(want);
                delay = delay * 2;
            }
        }
    }

    /** "If 8 other jobs are DEAD": 7 others are too few. */
    private static void seventhAndEighthDeadStay() {
        JobBoard x = new JobBoard(0);
        Moves.holdAndKill(x, 7);
        CHECKS.due("7 DEAD", x.count(JobBoard.DEAD), 7);
        Moves.holdAndKill(x, 1);
        CHECKS.due("with 7 others DEAD none is GONE", x.count(JobBoard.GONE), 0);
        CHECKS.due("8 DEAD", x.count(JobBoard.DEAD), 8);
    }

    /** "The one of these that became so first becomes GONE.", in each of the three ways to become DEAD. */
    private static void ninthDeadByKillFailAndTick() {
        for (int way = 0; way < 3; way++) {
            JobBoard x = new JobBoard(0);
            int last = Moves.submit(x, 0);
            Moves.holdAndKill(x, 8);
            if (way == 0) {
                x.kill(last);
            } else {
                x.take(0, 5);
                int answer = way == 1 ? x.fail(0) : x.tick(5);
                CHECKS.due("the answer", answer, way == 1 ? last : 1);
            }
            CHECKS.due("the ninth is DEAD", x.state(last), JobBoard.DEAD);
            CHECKS.due("the first is GONE", x.state(1), JobBoard.GONE);
            CHECKS.due("the second is not", x.state(2), JobBoard.DEAD);
            CHECKS.due("8 DEAD", x.count(JobBoard.DEAD), 8);
        }
    }

    private static void severalDieInOneTick() {
        JobBoard x = new JobBoard(0);
        Moves.submitMany(x, 0, 6);
        for (int w = 0; w <= 5; w++) {
            x.take(w, 10);
        }
        Moves.holdAndKill(x, 8);
        CHECKS.due("six die", x.tick(10), 6);
        CHECKS.due("six are GONE", x.count(JobBoard.GONE), 6);
        CHECKS.due("8 are DEAD", x.count(JobBoard.DEAD), 8);
        for (int job = 0; job <= 5; job++) {
            CHECKS.due("the six that died last", x.state(job), JobBoard.DEAD);
            CHECKS.due("the six that died first", x.state(6 + job), JobBoard.GONE);
        }
        // Of equal deadlines the least job first: job 0 is the third of the DEAD now.
        Moves.holdAndKill(x, 3);
        CHECKS.due("job 0 died before job 1", x.state(0), JobBoard.GONE);
        CHECKS.due("job 1 is the next", x.state(1), JobBoard.DEAD);
    }

    /** Neither GONE jobs nor those that were revived count among the 8. */
    private static void othersThatAreDeadAlone() {
        JobBoard x = new JobBoard(0);
        Moves.holdAndKill(x, 10);
        CHECKS.due("two are GONE", x.count(JobBoard.GONE), 2);
        x.revive(2);
        Moves.holdAndKill(x, 1);
        CHECKS.due("one was revived: nobody more is GONE", x.count(JobBoard.GONE), 2);
        Moves.holdAndKill(x, 1);
        CHECKS.due("the first of the DEAD", x.state(3), JobBoard.GONE);
        CHECKS.due("the revived one", x.state(2), JobBoard.READY);
    }

    /** "WORKERS 0 .. 5 have one job reserved or none." */
    private static void workersHaveOneJobOrNone() {
        JobBoard x = new JobBoard(0);
        Moves.submitMany(x, 0, 7);
        for (int w = 0; w <= 5; w++) {
            CHECKS.due("none", x.holding(w), JobBoard.NONE);
            CHECKS.due("take(" + w + ")", x.take(w, 50), w);
            CHECKS.due("one", x.holding(w), w);
            CHECKS.due("no second", x.take(w, 50), JobBoard.REFUSED);
        }
        CHECKS.due("a job is left", x.line(0, 0), 6);
        x.ack(5);
        CHECKS.due("none again", x.holding(5), JobBoard.NONE);
        CHECKS.due("the others keep theirs", x.holding(4), 4);
        CHECKS.due("a new one", x.take(5, 50), 6);
    }
}
