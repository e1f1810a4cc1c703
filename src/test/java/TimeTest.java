/** Promise 11: tick, and the tokens that time adds. */
public final class TimeTest {
    private static final Checks CHECKS = new Checks("TimeTest");

    public static void main(String[] args) {
        tickRanges();
        dueJobsBecomeReady();
        deadlinesFail();
        orderOfDueTimes();
        equalTimesLeastJobFirst();
        orderOfDying();
        delayCountsFromTheEndOfTheTick();
        recordOfTicksThatChange();
        tokensComeAtTheirMoments();
        longestDelayAndTick();
        tickOfAnEmptyBoard();
        allFortyAtOnce();
        equalDeadlinesLeastJobFirst();
        earlierDeadlineFirst();
        ackBeforeTheDeadline();
        CHECKS.end();
    }

    private static void tickRanges() {
        JobBoard x = new JobBoard(0);
        int[] bad = {0, -1, 1001, Integer.MIN_VALUE, Integer.MAX_VALUE};
        for (int n : bad) {
            CHECKS.due("tick(" + n + ")", x.tick(n), JobBoard.REFUSED);
        }
        CHECKS.due("no time has passed", x.count(10), 0);
        CHECKS.due("tick(1)", x.tick(1), 0);
        CHECKS.due("tick(1000)", x.tick(1000), 0);
        CHECKS.due("time", x.count(10), 1001);
    }

    private static void dueJobsBecomeReady() {
        JobBoard x = new JobBoard(0);
        x.submit(0, 0, 10, 1, 4);
        x.submit(0, 0, 11, 1, 4);
        CHECKS.due("before", x.tick(9), 0);
        CHECKS.due("SCHEDULED", x.state(0), JobBoard.SCHEDULED);
        CHECKS.due("at the due time", x.tick(1), 1);
        CHECKS.due("READY", x.state(0), JobBoard.READY);
        CHECKS.due("the other is not", x.state(1), JobBoard.SCHEDULED);
        x.take(0, 50);
        x.fail(0);
        CHECKS.due("the other", x.tick(3), 1);
        CHECKS.due("RETRYING until 14", x.state(0), JobBoard.RETRYING);
        CHECKS.due("and then", x.tick(1), 1);
        CHECKS.line("in the order of becoming READY", x, 0, 1, 0);
    }

    private static void deadlinesFail() {
        JobBoard x = new JobBoard(0);
        x.submit(0, 0, 0, 1, 7);
        x.take(4, 20);
        CHECKS.due("before the deadline", x.tick(19), 0);
        CHECKS.due("still held", x.holding(4), 0);
        CHECKS.due("at the deadline", x.tick(1), 1);
        CHECKS.due("RETRYING", x.state(0), JobBoard.RETRYING);
        CHECKS.due("a failure", x.failures(0), 1);
        CHECKS.due("the worker has none", x.holding(4), JobBoard.NONE);
        CHECKS.due("nothing to ack", x.ack(4), JobBoard.REFUSED);
        x.tick(7);
        x.take(4, 1);
        x.tick(1);
        CHECKS.due("more than the limit", x.state(0), JobBoard.DEAD);
    }

    private static void orderOfDueTimes() {
        JobBoard x = new JobBoard(0);
        int[] delays = {30, 10, 20, 40, 5};
        for (int delay : delays) {
            x.submit(0, 0, delay, 0, 1);
        }
        CHECKS.due("five", x.tick(100), 5);
        CHECKS.line("by due time", x, 0, 4, 1, 2, 0, 3);
    }

    private static void equalTimesLeastJobFirst() {
        JobBoard x = new JobBoard(0);
        x.submit(0, 0, 0, 1, 10);
        x.submit(0, 0, 10, 1, 10);
        x.submit(0, 0, 10, 1, 10);
        x.take(0, 50);
        x.fail(0);
        CHECKS.due("one RETRYING and two SCHEDULED", x.tick(10), 3);
        CHECKS.line("the least job first", x, 0, 0, 1, 2);
    }

    /** The deadlines run against the numbers, and the ninth of the dead pushes out the first. */
    private static void orderOfDying() {
        JobBoard x = new JobBoard(0);
        for (int i = 0; i < 6; i++) {
            x.submit(0, 0, 0, 0, 1);
        }
        for (int i = 0; i < 6; i++) {
            x.take(i, 60 - 10 * i);
        }
        CHECKS.due("all six fail", x.tick(100), 6);
        CHECKS.due("all six are DEAD", x.count(JobBoard.DEAD), 6);
        for (int i = 0; i < 3; i++) {
            x.submit(0, 0, 0, 0, 1);
            x.kill(6 + i);
        }
        CHECKS.due("the one of the first deadline is GONE", x.state(5), JobBoard.GONE);
        CHECKS.due("the next is not", x.state(4), JobBoard.DEAD);
        CHECKS.due("nor the least", x.state(0), JobBoard.DEAD);
        x.submit(0, 0, 0, 0, 1);
        x.take(0, 5);
        x.tick(5);
        CHECKS.due("a tick pushes out the next", x.state(4), JobBoard.GONE);
        CHECKS.due("8 are DEAD", x.count(JobBoard.DEAD), 8);
    }

    private static void delayCountsFromTheEndOfTheTick() {
        JobBoard x = new JobBoard(0);
        x.submit(0, 0, 0, 2, 1);
        x.take(0, 1);
        CHECKS.due("only the failing", x.tick(1000), 1);
        CHECKS.due("RETRYING, not READY", x.state(0), JobBoard.RETRYING);
        CHECKS.due("now + base", x.due(0), 1001);
    }

    private static void recordOfTicksThatChange() {
        JobBoard x = new JobBoard(0);
        x.submit(0, 0, 5, 2, 1);
        x.submit(0, 0, 5, 2, 1);
        x.tick(4);
        CHECKS.due("a tick that changes nothing", x.count(9), 2);
        x.tick(1);
        CHECKS.due("a tick that changes two jobs", x.count(9), 3);
    }

    private static void tokensComeAtTheirMoments() {
        JobBoard x = new JobBoard(0);
        x.tick(3);
        x.queue(2, 1, 20, 7);
        for (int i = 0; i < 6; i++) {
            x.submit(2, 0, 0, 0, 1);
            x.take(i, 100);
        }
        CHECKS.due("six are spent", x.count(13), 14);
        x.tick(6);
        CHECKS.due("time 9", x.count(13), 14);
        x.tick(1);
        CHECKS.due("time 10 = 3 + 7", x.count(13), 15);
        x.tick(20);
        CHECKS.due("time 30: 17 and 24 have passed", x.count(13), 17);
        x.tick(1);
        CHECKS.due("time 31", x.count(13), 18);
        x.tick(1000);
        CHECKS.due("not above the capacity", x.count(13), 20);
    }

    /** "Whose due time is not after now": at 1000 of 1000, and not at 999. */
    private static void longestDelayAndTick() {
        JobBoard x = new JobBoard(0);
        x.submit(0, 0, 1000, 0, 1);
        CHECKS.due("tick(999)", x.tick(999), 0);
        CHECKS.due("SCHEDULED", x.state(0), JobBoard.SCHEDULED);
        CHECKS.due("tick(1)", x.tick(1), 1);
        JobBoard y = new JobBoard(0);
        y.submit(0, 0, 1000, 0, 1);
        CHECKS.due("tick(1000)", y.tick(1000), 1);
        CHECKS.due("READY", y.state(0), JobBoard.READY);
    }

    private static void tickOfAnEmptyBoard() {
        JobBoard x = new JobBoard(0);
        CHECKS.due("no jobs", x.tick(1000), 0);
        CHECKS.due("no record", x.count(9), 0);
        CHECKS.due("time", x.count(10), 1000);
    }

    /** "Answers how many jobs.": all 40 of a full board, the later due times belonging to the lesser jobs. */
    private static void allFortyAtOnce() {
        JobBoard x = new JobBoard(0);
        for (int i = 0; i < 40; i++) {
            x.submit(1, 0, 40 - i, 0, 1);
        }
        CHECKS.due("all become READY", x.tick(40), 40);
        CHECKS.due("one record", x.count(9), (40 + 1) % 16);
        for (int k = 0; k < 40; k++) {
            CHECKS.due("line(1, " + k + ")", x.line(1, k), 39 - k);
        }
        CHECKS.due("none the next time", x.tick(1000), 0);
    }

    /** "Of equal ones the least job first.": taken against their numbers, but dying by them. */
    private static void equalDeadlinesLeastJobFirst() {
        JobBoard x = new JobBoard(0);
        for (int i = 0; i < 3; i++) {
            x.submit(0, i, 0, 0, 1);
        }
        for (int w = 0; w < 3; w++) {
            CHECKS.due("take", x.take(w, 10), 2 - w);
        }
        CHECKS.due("all three die", x.tick(10), 3);
        Moves.holdAndKill(x, 5);
        for (int job = 0; job < 3; job++) {
            CHECKS.due("job " + job + " is DEAD", x.state(job), JobBoard.DEAD);
            Moves.holdAndKill(x, 1);
            CHECKS.due("job " + job + " is the next to be GONE", x.state(job), JobBoard.GONE);
        }
    }

    /** "In the order of these due times and deadlines": the earlier deadline first, though its job is greater. */
    private static void earlierDeadlineFirst() {
        JobBoard x = new JobBoard(0);
        Moves.submitMany(x, 0, 2);
        x.take(0, 10);
        x.take(1, 9);
        CHECKS.due("both die", x.tick(10), 2);
        Moves.holdAndKill(x, 7);
        CHECKS.due("job 1 was the first", x.state(1), JobBoard.GONE);
        CHECKS.due("job 0 was not", x.state(0), JobBoard.DEAD);
    }

    /** A job that is acked or failed just before its deadline is no concern of the tick. */
    private static void ackBeforeTheDeadline() {
        JobBoard x = new JobBoard(0);
        x.submit(0, 0, 0, 1, 50);
        x.submit(0, 0, 0, 1, 50);
        x.take(0, 10);
        x.take(1, 10);
        x.tick(9);
        CHECKS.due("ack", x.ack(0), 0);
        CHECKS.due("fail", x.fail(1), 1);
        CHECKS.due("the deadlines concern nobody", x.tick(1), 0);
        CHECKS.due("due time after 9", x.due(1), 59);
    }
}
