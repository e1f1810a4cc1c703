/** Promises 12 and 13: revive, kill; and becoming DEAD. */
public final class DeadTest {
    private static final Checks CHECKS = new Checks("DeadTest");

    public static void main(String[] args) {
        killStates();
        killRefusals();
        reviveRefusals();
        reviveStartsAnew();
        reviveWithATakenKey();
        ninthDeadPushesOutTheFirst();
        revivedAndKilledAgainIsTheNewest();
        failedToo();
        reviveOnAFullBoard();
        reviveMakesRoomAmongTheDead();
        killedJobIsNotDueAnyMore();
        CHECKS.end();
    }

    private static void killStates() {
        JobBoard x = new JobBoard(0);
        x.submit(0, 0, 0, 3, 50);
        x.take(0, 100);
        x.fail(0);
        x.submit(0, 0, 0, 3, 50);
        x.submit(0, 0, 9, 3, 50);
        x.hold(0, 0);
        int[] states = {JobBoard.RETRYING, JobBoard.READY, JobBoard.SCHEDULED, JobBoard.HELD};
        int unflushed = x.count(9);
        for (int i = 0; i < states.length; i++) {
            CHECKS.due("the state of job " + i, x.state(i), states[i]);
            CHECKS.due("kill in state " + states[i], x.kill(i), JobBoard.OK);
            CHECKS.due("DEAD", x.state(i), JobBoard.DEAD);
            CHECKS.due("no due", x.due(i), JobBoard.NONE);
        }
        CHECKS.due("four records", x.count(9), unflushed + 4);
        CHECKS.due("failures stay", x.failures(0), 1);
        CHECKS.line("out of the line", x, 0);
        CHECKS.due("nothing is due any more", x.tick(1000), 0);
    }

    private static void killRefusals() {
        JobBoard x = new JobBoard(0);
        x.submit(0, 0, 0, 0, 1);
        x.submit(0, 0, 0, 0, 1);
        x.take(0, 50);
        CHECKS.due("RESERVED", x.kill(0), JobBoard.REFUSED);
        CHECKS.due("still held", x.holding(0), 0);
        x.ack(0);
        CHECKS.due("DONE", x.kill(0), JobBoard.REFUSED);
        x.kill(1);
        CHECKS.due("DEAD", x.kill(1), JobBoard.REFUSED);
        for (int i = 2; i < 10; i++) {
            x.hold(0, 0);
            x.kill(i);
        }
        CHECKS.due("GONE it is", x.state(1), JobBoard.GONE);
        int unflushed = x.count(9);
        CHECKS.due("GONE", x.kill(1), JobBoard.REFUSED);
        CHECKS.due("no such job", x.kill(10), JobBoard.REFUSED);
        CHECKS.due("job -1", x.kill(-1), JobBoard.REFUSED);
        CHECKS.due("extreme job", x.kill(Integer.MAX_VALUE), JobBoard.REFUSED);
        CHECKS.due("no record", x.count(9), unflushed);
    }

    private static void reviveRefusals() {
        JobBoard x = new JobBoard(0);
        x.submit(0, 0, 0, 3, 50);
        CHECKS.due("READY", x.revive(0), JobBoard.REFUSED);
        x.take(0, 100);
        CHECKS.due("RESERVED", x.revive(0), JobBoard.REFUSED);
        x.fail(0);
        CHECKS.due("RETRYING", x.revive(0), JobBoard.REFUSED);
        x.submit(0, 0, 9, 3, 50);
        CHECKS.due("SCHEDULED", x.revive(1), JobBoard.REFUSED);
        x.hold(0, 0);
        CHECKS.due("HELD", x.revive(2), JobBoard.REFUSED);
        x.submit(0, 0, 0, 0, 1);
        x.take(0, 100);
        x.ack(0);
        CHECKS.due("DONE", x.revive(3), JobBoard.REFUSED);
        for (int i = 4; i < 13; i++) {
            x.hold(0, 0);
            x.kill(i);
        }
        int unflushed = x.count(9);
        CHECKS.due("GONE it is", x.state(4), JobBoard.GONE);
        CHECKS.due("GONE", x.revive(4), JobBoard.REFUSED);
        CHECKS.due("no such job", x.revive(13), JobBoard.REFUSED);
        CHECKS.due("job -1", x.revive(-1), JobBoard.REFUSED);
        CHECKS.due("extreme job", x.revive(Integer.MIN_VALUE), JobBoard.REFUSED);
        CHECKS.due("no record", x.count(9), unflushed);
    }

    private static void reviveStartsAnew() {
        JobBoard x = new JobBoard(0);
        x.submit(0, 5, 0, 1, 6);
        x.take(0, 100);
        x.fail(0);
        x.tick(6);
        x.take(0, 100);
        x.fail(0);
        x.submit(0, 5, 0, 0, 1);
        int unflushed = x.count(9);
        CHECKS.due("two failures", x.failures(0), 2);
        CHECKS.due("revive", x.revive(0), JobBoard.OK);
        CHECKS.due("a record", x.count(9), unflushed + 1);
        CHECKS.due("no failures", x.failures(0), 0);
        CHECKS.line("at the end of its priority", x, 0, 1, 0);
        x.take(0, 100);
        x.take(1, 100);
        x.fail(1);
        CHECKS.due("the limit counts anew", x.state(0), JobBoard.RETRYING);
        CHECKS.due("and so does the delay", x.due(0), 12);
    }

    private static void reviveWithATakenKey() {
        JobBoard x = new JobBoard(0);
        x.key(3);
        x.submit(0, 0, 0, 0, 1);
        x.kill(0);
        x.key(3);
        x.submit(0, 0, 0, 0, 1);
        CHECKS.due("a LIVE job has the key", x.revive(0), JobBoard.DUPLICATE);
        CHECKS.due("still DEAD", x.state(0), JobBoard.DEAD);
        CHECKS.due("not DEAD comes before the key", x.revive(1), JobBoard.REFUSED);
        x.kill(1);
        CHECKS.due("both are DEAD", x.revive(0), JobBoard.OK);
        CHECKS.due("now the other is the duplicate", x.revive(1), JobBoard.DUPLICATE);
        x.take(0, 5);
        x.ack(0);
        CHECKS.due("DONE does not hinder", x.revive(1), JobBoard.OK);
        x.key(3);
        CHECKS.due("the revived has its key", x.submit(0, 0, 0, 0, 1), JobBoard.DUPLICATE);
        x.key(7);
        CHECKS.due("the waiting key is another thing", x.kill(1), JobBoard.OK);
        CHECKS.due("it does not hinder", x.revive(1), JobBoard.OK);
        x.submit(0, 0, 0, 0, 1);
        x.submit(0, 0, 0, 0, 1);
        x.kill(3);
        CHECKS.due("without a key there is no duplicate", x.revive(3), JobBoard.OK);
    }

    private static void ninthDeadPushesOutTheFirst() {
        JobBoard x = new JobBoard(0);
        for (int i = 0; i < 12; i++) {
            x.hold(0, 0);
        }
        int[] order = {7, 3, 11, 0, 5, 1, 9, 2};
        for (int job : order) {
            x.kill(job);
        }
        CHECKS.due("8 are DEAD", x.count(JobBoard.DEAD), 8);
        CHECKS.due("none is GONE", x.count(JobBoard.GONE), 0);
        x.kill(4);
        CHECKS.due("the first of them is GONE", x.state(7), JobBoard.GONE);
        CHECKS.due("the ninth is DEAD", x.state(4), JobBoard.DEAD);
        x.kill(6);
        CHECKS.due("the second is GONE", x.state(3), JobBoard.GONE);
        CHECKS.due("8 are DEAD still", x.count(JobBoard.DEAD), 8);
        CHECKS.due("two are GONE", x.count(JobBoard.GONE), 2);
    }

    private static void revivedAndKilledAgainIsTheNewest() {
        JobBoard x = new JobBoard(0);
        for (int i = 0; i < 10; i++) {
            x.hold(0, 0);
        }
        for (int i = 0; i < 8; i++) {
            x.kill(i);
        }
        x.revive(0);
        x.kill(0);
        CHECKS.due("nobody is GONE", x.count(JobBoard.GONE), 0);
        x.kill(8);
        CHECKS.due("job 1 was the first", x.state(1), JobBoard.GONE);
        CHECKS.due("job 0 was not", x.state(0), JobBoard.DEAD);
    }

    private static void failedToo() {
        JobBoard x = new JobBoard(0);
        for (int i = 0; i < 9; i++) {
            x.submit(0, 0, 0, 0, 1);
            x.take(0, 5);
            x.fail(0);
        }
        CHECKS.due("the first that failed is GONE", x.state(0), JobBoard.GONE);
        CHECKS.due("its failures can be read", x.failures(0), 1);
        CHECKS.due("it has no due", x.due(0), JobBoard.NONE);
        CHECKS.due("8 are DEAD", x.count(JobBoard.DEAD), 8);
    }

    /** A revive makes no job: a full board does not hinder it. */
    private static void reviveOnAFullBoard() {
        JobBoard x = new JobBoard(0);
        Moves.submitMany(x, 0, 40);
        x.kill(17);
        CHECKS.due("revive", x.revive(17), JobBoard.OK);
        CHECKS.due("READY", x.state(17), JobBoard.READY);
        CHECKS.due("the last of the line", x.line(0, 39), 17);
    }

    /** With one of 8 DEAD jobs revived, the next to die has 7 others beside it. */
    private static void reviveMakesRoomAmongTheDead() {
        JobBoard x = new JobBoard(0);
        Moves.holdAndKill(x, 8);
        CHECKS.due("revive", x.revive(3), JobBoard.OK);
        Moves.holdAndKill(x, 1);
        CHECKS.due("nobody is GONE", x.count(JobBoard.GONE), 0);
        CHECKS.due("8 are DEAD", x.count(JobBoard.DEAD), 8);
        CHECKS.due("the revived dies again", x.kill(3), JobBoard.OK);
        CHECKS.due("the first is GONE", x.state(0), JobBoard.GONE);
        CHECKS.due("it is not", x.state(3), JobBoard.DEAD);
    }

    /** A SCHEDULED job that was killed and revived is READY at once; its due time has no power any more. */
    private static void killedJobIsNotDueAnyMore() {
        JobBoard x = new JobBoard(0);
        x.submit(0, 0, 5, 0, 1);
        x.kill(0);
        x.revive(0);
        CHECKS.due("READY", x.state(0), JobBoard.READY);
        CHECKS.due("no due", x.due(0), JobBoard.NONE);
        CHECKS.due("the old due time", x.tick(5), 0);
        x.take(0, 50);
        CHECKS.due("RESERVED since: nothing is due", x.tick(5), 0);
    }
}
