/** Promises 14 and 15: flush, crash; and the records. */
public final class JournalTest {
    private static final Checks CHECKS = new Checks("JournalTest");

    public static void main(String[] args) {
        recordsOfCalls();
        sixteenAreFlushed();
        flushAnswersHowMany();
        crashKeepsTheFirst();
        keepOutOfRange();
        lostJobsGiveTheirNumbersBack();
        numbersGivenAgainStartAnew();
        lostChangesOfEveryKind();
        lostDueTimeComesBack();
        lostTickKeepsTime();
        reservedBecomeReadyByNumber();
        dueJobsBecomeReadyAfterTheReserved();
        passedDeadlineIsNoFailure();
        creditsBucketsAndKey();
        startsStay();
        weightsStay();
        crashIsFlushed();
        keepNextToTheRecords();
        belowZeroCountsAsZero();
        backToAnEmptyBoard();
        crashOfAFullBoard();
        dueAtTheCrash();
        crashWithoutRecords();
        emptiedBucketsAreFull();
        sixReservedAtTheCrash();
        CHECKS.end();
    }

    private static void recordsOfCalls() {
        JobBoard x = new JobBoard(0);
        x.queue(0, 1, 0, 1);
        x.key(1);
        x.tick(1);
        CHECKS.due("queue, key and an idle tick", x.count(9), 0);
        x.submit(0, 0, 1, 1, 1);
        CHECKS.due("submit", x.count(9), 1);
        x.hold(0, 0);
        CHECKS.due("hold", x.count(9), 2);
        x.join(0, 1);
        CHECKS.due("join", x.count(9), 3);
        x.seal(1);
        CHECKS.due("seal", x.count(9), 4);
        x.tick(1);
        CHECKS.due("tick", x.count(9), 5);
        x.take(0, 9);
        CHECKS.due("take", x.count(9), 6);
        x.fail(0);
        CHECKS.due("fail", x.count(9), 7);
        x.kill(0);
        CHECKS.due("kill", x.count(9), 8);
        x.revive(0);
        CHECKS.due("revive", x.count(9), 9);
        x.take(0, 9);
        x.ack(0);
        CHECKS.due("ack", x.count(9), 11);
        x.state(0);
        x.line(0, 0);
        CHECKS.due("reading", x.count(9), 11);
    }

    private static void sixteenAreFlushed() {
        JobBoard x = new JobBoard(0);
        for (int i = 0; i < 15; i++) {
            x.hold(0, 0);
        }
        CHECKS.due("15 are not flushed", x.count(9), 15);
        x.hold(0, 0);
        CHECKS.due("with the 16th all are", x.count(9), 0);
        x.hold(0, 0);
        CHECKS.due("one", x.count(9), 1);
        CHECKS.due("one is lost", x.crash(0), 1);
        CHECKS.due("16 jobs stay", x.count(8), 16);
        for (int i = 0; i < 15; i++) {
            x.hold(0, 0);
        }
        CHECKS.due("15 are lost", x.crash(0), 15);
        CHECKS.due("16 jobs stay still", x.count(8), 16);
    }

    private static void flushAnswersHowMany() {
        JobBoard x = new JobBoard(0);
        for (int i = 0; i < 3; i++) {
            x.hold(0, 0);
        }
        CHECKS.due("three", x.flush(), 3);
        CHECKS.due("none", x.flush(), 0);
        CHECKS.due("count", x.count(9), 0);
        x.kill(2);
        CHECKS.due("the kill is lost", x.crash(0), 1);
        CHECKS.due("the holds are not", x.count(JobBoard.HELD), 3);
        for (int i = 0; i < 15; i++) {
            x.hold(0, 0);
        }
        CHECKS.due("fifteen", x.flush(), 15);
    }

    private static void crashKeepsTheFirst() {
        for (int keep = 0; keep <= 6; keep++) {
            JobBoard x = new JobBoard(0);
            x.submit(0, 0, 0, 0, 1);
            x.flush();
            for (int i = 0; i < 5; i++) {
                x.submit(0, i, 0, 0, 1);
            }
            CHECKS.due("crash(" + keep + ")", x.crash(keep), Math.max(0, 5 - keep));
            CHECKS.due("jobs after crash(" + keep + ")", x.count(8), 1 + Math.min(5, keep));
            CHECKS.due("all are flushed", x.count(9), 0);
        }
    }

    private static void keepOutOfRange() {
        JobBoard x = new JobBoard(0);
        x.hold(0, 0);
        x.hold(0, 0);
        CHECKS.due("a great keep", x.crash(Integer.MAX_VALUE), 0);
        CHECKS.due("nothing is lost", x.count(8), 2);
        x.hold(0, 0);
        CHECKS.due("below 0", x.crash(Integer.MIN_VALUE), 1);
        x.hold(0, 0);
        CHECKS.due("-1", x.crash(-1), 1);
        CHECKS.due("the flushed stay", x.count(8), 2);
    }

    private static void lostJobsGiveTheirNumbersBack() {
        JobBoard x = new JobBoard(0);
        x.hold(0, 0);
        x.flush();
        x.key(4);
        x.submit(3, 9, 0, 5, 50);
        x.take(0, 50);
        x.fail(0);
        x.join(1, 0);
        x.hold(0, 0);
        x.seal(2);
        CHECKS.due("all are lost", x.crash(0), 6);
        CHECKS.due("no job 1", x.state(1), JobBoard.REFUSED);
        CHECKS.due("no job 1 to join", x.join(1, 0), JobBoard.REFUSED);
        CHECKS.due("no member", x.due(0), 0);
        x.key(4);
        CHECKS.due("number and key are free", x.submit(1, 0, 7, 0, 1), 1);
        CHECKS.due("no failures of the lost one", x.failures(1), 0);
        CHECKS.due("its own due time", x.due(1), 7);
        CHECKS.due("no callback of the lost one", x.join(1, 0), JobBoard.OK);
        CHECKS.due("number 2 again", x.hold(2, 0), 2);
        CHECKS.due("not SEALED", x.seal(2), JobBoard.OK);
        CHECKS.due("number 3", x.submit(2, 0, 0, 0, 1), 3);
        CHECKS.line("the queues are the new ones", x, 2, 2, 3);
    }

    private static void numbersGivenAgainStartAnew() {
        JobBoard x = new JobBoard(0);
        x.hold(0, 0);
        x.hold(0, 0);
        x.join(0, 1);
        x.submit(0, 0, 0, 5, 50);
        CHECKS.due("all but the first are lost", x.crash(1), 3);
        CHECKS.due("number 1 again", x.hold(0, 0), 1);
        CHECKS.due("no members of the lost one", x.due(1), 0);
        CHECKS.due("number 2 again", x.hold(0, 0), 2);
        x.seal(2);
        x.take(0, 5);
        x.fail(0);
        CHECKS.due("not the limit of the lost one", x.state(2), JobBoard.DEAD);
    }

    private static void lostDueTimeComesBack() {
        JobBoard x = new JobBoard(0);
        x.submit(0, 0, 0, 3, 30);
        x.take(0, 100);
        x.fail(0);
        x.flush();
        x.kill(0);
        x.revive(0);
        x.take(0, 100);
        x.fail(0);
        x.tick(3);
        CHECKS.due("four are lost", x.crash(0), 4);
        CHECKS.due("RETRYING as it was flushed", x.due(0), 30);
        x.submit(1, 0, 0, 0, 1);
        x.flush();
        x.tick(27);
        x.take(0, 90);
        CHECKS.due("its deadline", x.due(0), 120);
        CHECKS.due("the take is lost", x.crash(1), 1);
        CHECKS.due("the tick is not", x.state(0), JobBoard.READY);
        JobBoard y = new JobBoard(0);
        y.submit(0, 0, 50, 3, 40);
        y.flush();
        y.tick(49);
        y.kill(0);
        y.revive(0);
        y.take(0, 7);
        CHECKS.due("another deadline", y.due(0), 56);
        CHECKS.due("three are lost", y.crash(0), 3);
        CHECKS.due("SCHEDULED with its own due time", y.due(0), 50);
        CHECKS.due("READY then", y.tick(1), 1);
    }

    private static void lostChangesOfEveryKind() {
        JobBoard x = new JobBoard(0);
        x.hold(0, 0);
        x.submit(0, 5, 0, 0, 1);
        x.submit(0, 5, 0, 0, 1);
        x.submit(0, 5, 8, 0, 1);
        x.submit(1, 0, 0, 0, 1);
        x.kill(4);
        x.join(1, 0);
        x.flush();
        x.join(2, 0);
        x.seal(0);
        x.take(0, 50);
        x.ack(0);
        x.take(0, 50);
        x.fail(0);
        x.kill(3);
        x.revive(4);
        CHECKS.due("one of its two members failed: HELD", x.state(0), JobBoard.HELD);
        CHECKS.due("eight are lost", x.crash(0), 8);
        CHECKS.due("one member", x.due(0), 1);
        CHECKS.line("the line is as it was", x, 0, 1, 2);
        CHECKS.due("SCHEDULED", x.state(3), JobBoard.SCHEDULED);
        CHECKS.due("its due time", x.due(3), 8);
        CHECKS.due("DEAD", x.state(4), JobBoard.DEAD);
        CHECKS.due("no failures", x.failures(2), 0);
        CHECKS.due("not SEALED", x.seal(0), JobBoard.OK);
        CHECKS.due("no callback", x.join(2, 0), JobBoard.OK);
        CHECKS.due("its callback", x.join(1, 0), JobBoard.REFUSED);
    }

    private static void lostTickKeepsTime() {
        JobBoard x = new JobBoard(0);
        x.submit(0, 0, 10, 0, 1);
        x.submit(0, 0, 30, 0, 1);
        x.submit(0, 0, 5, 0, 1);
        x.flush();
        x.tick(20);
        CHECKS.due("the tick is lost", x.crash(0), 1);
        CHECKS.due("time is not", x.count(10), 20);
        CHECKS.line("what is due becomes READY by its due time", x, 0, 2, 0);
        CHECKS.due("what is not due waits", x.state(1), JobBoard.SCHEDULED);
        CHECKS.due("it comes later", x.tick(10), 1);
    }

    private static void reservedBecomeReadyByNumber() {
        JobBoard x = new JobBoard(1);
        for (int i = 0; i < 4; i++) {
            x.submit(0, i == 2 ? 3 : 1, 0, 3, 50);
        }
        x.take(0, 50);
        x.take(1, 40);
        x.take(2, 30);
        x.fail(1);
        x.tick(50);
        x.take(3, 60);
        x.take(4, 60);
        // RESERVED now: 3 and 0, taken against their numbers; 1 and 2 failed in the tick and are RETRYING.
        CHECKS.due("worker 3 has job 3", x.holding(3), 3);
        CHECKS.due("worker 4 has job 0", x.holding(4), 0);
        x.submit(0, 1, 0, 0, 1);
        CHECKS.due("nothing is lost", x.crash(16), 0);
        CHECKS.line("behind those that were READY, by number", x, 0, 4, 0, 3);
        for (int w = 0; w < 6; w++) {
            CHECKS.due("worker " + w + " has none", x.holding(w), JobBoard.NONE);
            CHECKS.due("worker " + w + " has nothing to ack", x.ack(w), JobBoard.REFUSED);
        }
        CHECKS.due("failures stay", x.failures(0), 1);
        CHECKS.due("no failures come", x.failures(3), 0);
        CHECKS.due("READY has no due", x.due(0), JobBoard.NONE);
        CHECKS.due("take again", x.take(0, 5), 4);
    }

    private static void dueJobsBecomeReadyAfterTheReserved() {
        JobBoard x = new JobBoard(0);
        x.submit(0, 0, 9, 0, 1);
        x.submit(0, 0, 4, 0, 1);
        x.submit(0, 0, 4, 0, 1);
        x.submit(0, 0, 0, 0, 1);
        x.take(0, 100);
        x.flush();
        x.tick(10);
        CHECKS.due("one record is lost", x.crash(0), 1);
        CHECKS.line("the reserved, then by due time", x, 0, 3, 1, 2, 0);
    }

    private static void passedDeadlineIsNoFailure() {
        JobBoard x = new JobBoard(0);
        x.submit(0, 0, 0, 0, 1);
        x.take(0, 5);
        x.tick(5);
        CHECKS.due("it died of its deadline", x.state(0), JobBoard.DEAD);
        CHECKS.due("the tick is lost", x.crash(2), 1);
        CHECKS.due("READY", x.state(0), JobBoard.READY);
        CHECKS.due("no failures", x.failures(0), 0);
        CHECKS.due("no deadline stays", x.tick(10), 0);
    }

    private static void creditsBucketsAndKey() {
        JobBoard x = new JobBoard(0);
        x.queue(2, 1, 3, 50);
        for (int i = 0; i < 3; i++) {
            x.submit(0, 0, 0, 0, 1);
            x.submit(2, 0, 0, 0, 1);
        }
        CHECKS.due("queue 0 first", x.take(0, 9), 0);
        x.key(5);
        CHECKS.due("nothing is lost", x.crash(99), 0);
        CHECKS.due("credits are 0: queue 0 first again", x.take(0, 9), 2);
        CHECKS.due("then queue 2", x.take(1, 9), 1);
        CHECKS.due("a token is spent", x.count(13), 2);
        x.crash(0);
        CHECKS.due("the bucket is full", x.count(13), 3);
        CHECKS.due("without a capacity none", x.count(11), 0);
        x.submit(1, 0, 0, 0, 1);
        x.key(5);
        CHECKS.due("the waiting key was gone", x.submit(1, 0, 0, 0, 1), 7);
    }

    private static void startsStay() {
        JobBoard x = new JobBoard(0);
        x.queue(0, 1, 2, 10);
        x.submit(0, 0, 0, 0, 1);
        x.flush();
        x.tick(7);
        x.crash(0);
        x.take(0, 50);
        CHECKS.due("one of two", x.count(11), 1);
        x.tick(2);
        CHECKS.due("time 9", x.count(11), 1);
        x.tick(1);
        CHECKS.due("time 10, from the start 0", x.count(11), 2);
    }

    private static void weightsStay() {
        JobBoard x = new JobBoard(0);
        x.submit(0, 0, 0, 0, 1);
        x.flush();
        x.queue(0, 0, 5, 3);
        x.crash(0);
        CHECKS.due("paused still", x.take(0, 5), JobBoard.NONE);
        CHECKS.due("the capacity stays", x.count(11), 5);
    }

    private static void crashIsFlushed() {
        JobBoard x = new JobBoard(0);
        x.submit(0, 0, 0, 2, 10);
        x.submit(0, 0, 0, 2, 10);
        x.take(0, 50);
        x.crash(3);
        CHECKS.line("the reserved went to the end", x, 0, 1, 0);
        x.kill(1);
        CHECKS.due("the kill is lost", x.crash(0), 1);
        CHECKS.line("what the first crash did stays", x, 0, 1, 0);
    }

    /** "All but the first keep": one fewer than there are, as many, and one more. */
    private static void keepNextToTheRecords() {
        int[] lost = {1, 0, 0};
        for (int i = 0; i < 3; i++) {
            JobBoard x = new JobBoard(0);
            for (int job = 0; job < 15; job++) {
                x.hold(0, 0);
            }
            CHECKS.due("crash(" + (14 + i) + ") with 15 records", x.crash(14 + i), lost[i]);
            CHECKS.due("jobs", x.count(8), 15 - lost[i]);
        }
    }

    /** "Below 0 counts as 0". */
    private static void belowZeroCountsAsZero() {
        int[] keeps = {0, -1, -16, Integer.MIN_VALUE, Integer.MIN_VALUE + 1};
        for (int keep : keeps) {
            JobBoard x = new JobBoard(0);
            x.hold(0, 0);
            x.flush();
            x.hold(0, 0);
            x.hold(0, 0);
            CHECKS.due("crash(" + keep + ")", x.crash(keep), 2);
            CHECKS.due("jobs after crash(" + keep + ")", x.count(8), 1);
        }
    }

    /** "Jobs that those made are not there, and their numbers are given again", down to number 0. */
    private static void backToAnEmptyBoard() {
        JobBoard x = new JobBoard(0);
        x.key(1);
        Moves.submitMany(x, 0, 3);
        x.take(0, 50);
        x.take(1, 50);
        x.ack(1);
        CHECKS.due("all are lost", x.crash(0), 6);
        CHECKS.due("no jobs", x.count(8), 0);
        CHECKS.due("no job 0", x.state(0), JobBoard.REFUSED);
        CHECKS.due("nobody holds it", x.holding(0), JobBoard.NONE);
        CHECKS.line("nobody waits", x, 0);
        CHECKS.due("nothing to take", x.take(0, 50), JobBoard.NONE);
        for (int state = JobBoard.SCHEDULED; state <= JobBoard.GONE; state++) {
            CHECKS.due("count(" + state + ")", x.count(state), 0);
        }
        x.key(1);
        CHECKS.due("number 0 and key 1 again", x.submit(0, 0, 0, 0, 1), 0);
    }

    /** The jobs that a crash takes from a full board make room again. */
    private static void crashOfAFullBoard() {
        JobBoard x = new JobBoard(0);
        Moves.submitMany(x, 0, 40);
        CHECKS.due("records not flushed", x.count(9), 8);
        CHECKS.due("one is lost", x.crash(7), 1);
        CHECKS.due("no job 39", x.state(39), JobBoard.REFUSED);
        CHECKS.due("number 39 again", x.hold(1, 1), 39);
        CHECKS.due("full again", x.hold(1, 1), JobBoard.FULL);
    }

    /** "Jobs whose due time is not after now become READY": at now, and not at now + 1. */
    private static void dueAtTheCrash() {
        JobBoard x = new JobBoard(0);
        x.submit(0, 0, 11, 0, 1);
        x.submit(0, 0, 10, 0, 1);
        x.submit(0, 0, 0, 1, 10);
        x.submit(0, 0, 0, 1, 11);
        x.take(0, 50);
        x.take(1, 50);
        x.fail(0);
        x.fail(1);
        x.flush();
        CHECKS.due("two are due", x.tick(10), 2);
        CHECKS.due("the tick is lost", x.crash(0), 1);
        CHECKS.due("SCHEDULED until 11", x.state(0), JobBoard.SCHEDULED);
        CHECKS.due("RETRYING until 11", x.state(3), JobBoard.RETRYING);
        CHECKS.line("those due at 10", x, 0, 1, 2);
        CHECKS.due("the others at 11", x.tick(1), 2);
    }

    /** "Answers how many RECORDS were lost.": none after a flush, after the 16th record and after a crash. */
    private static void crashWithoutRecords() {
        JobBoard x = new JobBoard(0);
        CHECKS.due("an empty board", x.crash(0), 0);
        x.hold(0, 0);
        x.flush();
        CHECKS.due("after a flush", x.crash(0), 0);
        for (int i = 0; i < 16; i++) {
            x.hold(0, 0);
        }
        CHECKS.due("after the 16th", x.crash(0), 0);
        x.hold(0, 0);
        CHECKS.due("one", x.crash(0), 1);
        CHECKS.due("after a crash", x.crash(0), 0);
        CHECKS.due("flush after a crash", x.flush(), 0);
        CHECKS.due("jobs", x.count(8), 17);
    }

    /** "Buckets with a capacity are full", from 0 tokens to 1 and to 20; one without has none. */
    private static void emptiedBucketsAreFull() {
        JobBoard x = new JobBoard(1);
        x.queue(0, 1, 1, 50);
        x.queue(1, 1, 20, 50);
        x.submit(0, 0, 0, 0, 1);
        Moves.submitMany(x, 1, 20);
        CHECKS.due("all are served", Moves.serveMany(x, 21), 21);
        CHECKS.due("no token in queue 0", x.count(11), 0);
        CHECKS.due("no token in queue 1", x.count(12), 0);
        x.crash(99);
        CHECKS.due("queue 0", x.count(11), 1);
        CHECKS.due("queue 1", x.count(12), 20);
        CHECKS.due("queue 2", x.count(13), 0);
        x.tick(1000);
        CHECKS.due("queue 2 after the longest tick", x.count(13), 0);
    }

    /** "Workers have none": all six that a board has. */
    private static void sixReservedAtTheCrash() {
        JobBoard x = new JobBoard(0);
        for (int i = 0; i < 6; i++) {
            x.submit(0, 5, 0, 0, 1);
        }
        for (int w = 5; w >= 0; w--) {
            CHECKS.due("take", x.take(w, 1), 5 - w);
        }
        x.tick(1);
        CHECKS.due("the tick is lost", x.crash(12), 1);
        CHECKS.line("READY by number, without a failure", x, 0, 0, 1, 2, 3, 4, 5);
        for (int w = 0; w < 6; w++) {
            CHECKS.due("worker " + w + " has none", x.holding(w), JobBoard.NONE);
            CHECKS.due("its failures", x.failures(w), 0);
        }
    }
}
