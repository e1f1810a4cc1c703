/** Promises 16 to 21: state, failures, due, holding, line, count. */
public final class ReadingTest {
    private static final Checks CHECKS = new Checks("ReadingTest");
    private static final int[] EXTREMES = {Integer.MIN_VALUE, Integer.MIN_VALUE + 1, -1, Integer.MAX_VALUE};

    public static void main(String[] args) {
        jobOfEveryState();
        noSuchJob();
        holdingRanges();
        linesAndTheirEnds();
        countRanges();
        readingChangesNothing();
        dueOfAHeldJob();
        lineOfOneJob();
        countsOfAFullBoard();
        CHECKS.end();
    }

    /** Job i of 0 .. 7 is in state i; jobs 8 to 14 are DEAD too, so that job 7 is GONE. */
    private static JobBoard boardOfAllStates() {
        JobBoard x = new JobBoard(1);
        x.submit(3, 0, 77, 0, 1);
        x.submit(3, 2, 0, 0, 1);
        x.submit(0, 0, 0, 0, 1);
        x.take(1, 60);
        x.submit(0, 0, 0, 2, 40);
        x.take(0, 50);
        x.fail(0);
        x.submit(0, 0, 0, 0, 1);
        x.take(0, 50);
        x.ack(0);
        x.submit(0, 0, 0, 0, 1);
        x.hold(0, 0);
        x.join(1, 6);
        x.hold(0, 0);
        x.kill(7);
        for (int i = 8; i < 15; i++) {
            x.hold(0, 0);
            x.kill(i);
        }
        x.take(5, 50);
        x.fail(5);
        return x;
    }

    private static void jobOfEveryState() {
        JobBoard x = boardOfAllStates();
        int[] dues = {77, JobBoard.NONE, 60, 40, JobBoard.NONE, JobBoard.NONE, 1, JobBoard.NONE};
        int[] failures = {0, 0, 0, 1, 0, 1, 0, 0};
        int[] counts = {1, 1, 1, 1, 1, 8, 1, 1};
        for (int i = 0; i < 8; i++) {
            CHECKS.due("state(" + i + ")", x.state(i), i);
            CHECKS.due("due(" + i + ")", x.due(i), dues[i]);
            CHECKS.due("failures(" + i + ")", x.failures(i), failures[i]);
            CHECKS.due("count(" + i + ")", x.count(i), counts[i]);
        }
        CHECKS.due("count(8)", x.count(8), 15);
    }

    private static void noSuchJob() {
        JobBoard x = boardOfAllStates();
        int[] bad = {-1, 15, 39, 40, 41, Integer.MIN_VALUE, Integer.MAX_VALUE};
        for (int job : bad) {
            CHECKS.due("state(" + job + ")", x.state(job), JobBoard.REFUSED);
            CHECKS.due("failures(" + job + ")", x.failures(job), JobBoard.REFUSED);
            CHECKS.due("due(" + job + ")", x.due(job), JobBoard.REFUSED);
        }
        JobBoard full = new JobBoard(0);
        for (int i = 0; i < 40; i++) {
            full.hold(0, 0);
        }
        CHECKS.due("state(39) of a full board", full.state(39), JobBoard.HELD);
        CHECKS.due("state(40) of a full board", full.state(40), JobBoard.REFUSED);
    }

    private static void holdingRanges() {
        JobBoard x = boardOfAllStates();
        int[] held = {JobBoard.NONE, 2, JobBoard.NONE, JobBoard.NONE, JobBoard.NONE, JobBoard.NONE};
        for (int w = 0; w < 6; w++) {
            CHECKS.due("holding(" + w + ")", x.holding(w), held[w]);
        }
        CHECKS.due("holding(6)", x.holding(6), JobBoard.REFUSED);
        for (int w : EXTREMES) {
            CHECKS.due("holding(" + w + ")", x.holding(w), JobBoard.REFUSED);
        }
    }

    private static void linesAndTheirEnds() {
        JobBoard x = new JobBoard(0);
        for (int i = 0; i < 40; i++) {
            x.submit(2, i % 10, 0, 0, 1);
        }
        for (int k = 0; k < 40; k++) {
            // Priority 9 first: 9, 19, 29, 39, then priority 8.
            CHECKS.due("line(2, " + k + ")", x.line(2, k), 9 - k / 4 + 10 * (k % 4));
        }
        CHECKS.due("line(2, 40)", x.line(2, 40), JobBoard.NONE);
        for (int k : EXTREMES) {
            CHECKS.due("line(2, " + k + ")", x.line(2, k), JobBoard.NONE);
            CHECKS.due("line(" + k + ", 0)", x.line(k, 0), JobBoard.REFUSED);
            CHECKS.due("line(4, " + k + ")", x.line(4, k), JobBoard.REFUSED);
        }
        CHECKS.due("an empty line", x.line(1, 0), JobBoard.NONE);
    }

    private static void countRanges() {
        JobBoard x = boardOfAllStates();
        CHECKS.due("count(9)", x.count(9), x.flush());
        x.tick(12);
        CHECKS.due("count(10)", x.count(10), 12);
        for (int q = 0; q < 4; q++) {
            x.queue(q, 1, 3 * q, 5);
        }
        for (int q = 0; q < 4; q++) {
            CHECKS.due("count(" + (11 + q) + ")", x.count(11 + q), 3 * q);
        }
        CHECKS.due("count(15)", x.count(15), JobBoard.REFUSED);
        for (int what : EXTREMES) {
            CHECKS.due("count(" + what + ")", x.count(what), JobBoard.REFUSED);
        }
    }

    private static void readingChangesNothing() {
        JobBoard x = boardOfAllStates();
        int unflushed = x.count(9);
        x.key(3);
        x.state(1);
        x.failures(1);
        x.due(1);
        x.holding(1);
        x.line(3, 0);
        x.count(11);
        CHECKS.due("no record", x.count(9), unflushed);
        x.submit(0, 0, 0, 0, 1);
        x.key(3);
        CHECKS.due("the key was still waiting", x.submit(0, 0, 0, 0, 1), JobBoard.DUPLICATE);
    }

    /** "The members of a HELD one": 0 is an answer, not NONE. */
    private static void dueOfAHeldJob() {
        JobBoard x = new JobBoard(0);
        x.hold(0, 0);
        CHECKS.due("no members", x.due(0), 0);
        x.join(x.hold(0, 0), 0);
        CHECKS.due("one", x.due(0), 1);
        x.kill(0);
        CHECKS.due("DEAD: NONE", x.due(0), JobBoard.NONE);
    }

    /** "From 0; NONE if there is no such": before, at and behind the only job of a line. */
    private static void lineOfOneJob() {
        for (int q = 0; q <= 3; q++) {
            JobBoard x = new JobBoard(0);
            CHECKS.due("line(" + q + ", 0) without a job", x.line(q, 0), JobBoard.NONE);
            Moves.submit(x, q);
            CHECKS.due("line(" + q + ", -1)", x.line(q, -1), JobBoard.NONE);
            CHECKS.due("line(" + q + ", 0)", x.line(q, 0), 0);
            CHECKS.due("line(" + q + ", 1)", x.line(q, 1), JobBoard.NONE);
            CHECKS.due("the next queue's", x.line((q + 1) % 4, 0), JobBoard.NONE);
            x.take(0, 50);
            CHECKS.due("line(" + q + ", 0) after the take", x.line(q, 0), JobBoard.NONE);
        }
    }

    /** Each of 0 .. 7 can count 40 but for RESERVED, of which there are six workers, and DEAD. */
    private static void countsOfAFullBoard() {
        JobBoard x = new JobBoard(0);
        for (int i = 0; i < 40; i++) {
            x.submit(0, 0, 1, 0, 1);
        }
        CHECKS.due("40 SCHEDULED", x.count(JobBoard.SCHEDULED), 40);
        CHECKS.due("40 jobs", x.count(8), 40);
        x.tick(1);
        CHECKS.due("40 READY", x.count(JobBoard.READY), 40);
        for (int w = 0; w <= 5; w++) {
            x.take(w, 50);
        }
        CHECKS.due("6 RESERVED", x.count(JobBoard.RESERVED), 6);
        for (int job = 6; job < 40; job++) {
            x.kill(job);
        }
        CHECKS.due("8 DEAD", x.count(JobBoard.DEAD), 8);
        CHECKS.due("26 GONE", x.count(JobBoard.GONE), 26);
        CHECKS.due("none READY", x.count(JobBoard.READY), 0);
        CHECKS.due("still 40 jobs", x.count(8), 40);
    }
}
