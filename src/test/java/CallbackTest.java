/** Promises 6, 7 and 9: join, seal, ack. */
public final class CallbackTest {
    private static final Checks CHECKS = new Checks("CallbackTest");

    public static void main(String[] args) {
        joinRefusals();
        joinOfEveryLiveState();
        sealedCallbackStillTakesMembers();
        sealRefusals();
        sealWithoutMembers();
        ackRefusals();
        lastAckReleasesTheSealed();
        unsealedIsNotReleased();
        callbackThatIsNotHeld();
        deadMemberKeepsItsPlace();
        callbackOfACallback();
        callbacksOfEachOther();
        callbackOfAllOtherJobs();
        sealAfterTheLastMember();
        ackOfAJobWithoutACallback();
        failedMemberStillCounts();
        CHECKS.end();
    }

    private static void joinRefusals() {
        JobBoard x = new JobBoard(0);
        x.hold(0, 0);
        x.submit(0, 0, 0, 0, 1);
        x.hold(0, 0);
        CHECKS.due("no such job", x.join(3, 0), JobBoard.REFUSED);
        CHECKS.due("no such callback", x.join(1, 3), JobBoard.REFUSED);
        CHECKS.due("job -1", x.join(-1, 0), JobBoard.REFUSED);
        CHECKS.due("callback -1", x.join(1, -1), JobBoard.REFUSED);
        CHECKS.due("extreme job", x.join(Integer.MAX_VALUE, 0), JobBoard.REFUSED);
        CHECKS.due("extreme callback", x.join(1, Integer.MIN_VALUE), JobBoard.REFUSED);
        CHECKS.due("both the same", x.join(0, 0), JobBoard.REFUSED);
        CHECKS.due("the callback is not HELD", x.join(0, 1), JobBoard.REFUSED);
        CHECKS.due("no member was added", x.due(0), 0);
        CHECKS.due("no record was put", x.count(9), 3);
        CHECKS.due("join", x.join(1, 0), JobBoard.OK);
        CHECKS.due("one member", x.due(0), 1);
        CHECKS.due("a record was put", x.count(9), 4);
        CHECKS.due("it has a callback, the same", x.join(1, 0), JobBoard.REFUSED);
        CHECKS.due("it has a callback, another asked", x.join(1, 2), JobBoard.REFUSED);
        CHECKS.due("still one member", x.due(0), 1);
        x.submit(1, 0, 0, 0, 1);
        x.kill(3);
        CHECKS.due("a DEAD job", x.join(3, 0), JobBoard.REFUSED);
        x.submit(1, 0, 0, 0, 1);
        x.queue(0, 0, 0, 1);
        x.take(0, 5);
        x.ack(0);
        CHECKS.due("a DONE job", x.join(4, 0), JobBoard.REFUSED);
        x.kill(2);
        CHECKS.due("the callback is DEAD", x.join(0, 2), JobBoard.REFUSED);
        for (int i = 0; i < 8; i++) {
            x.submit(1, 0, 0, 0, 1);
            x.kill(5 + i);
        }
        CHECKS.due("job 3 is GONE", x.state(3), JobBoard.GONE);
        CHECKS.due("a GONE job", x.join(3, 0), JobBoard.REFUSED);
    }

    private static void joinOfEveryLiveState() {
        JobBoard x = new JobBoard(0);
        x.hold(0, 0);
        x.submit(0, 0, 0, 3, 50);
        x.take(0, 100);
        x.fail(0);
        x.submit(0, 0, 0, 3, 50);
        x.take(0, 100);
        x.submit(0, 0, 0, 3, 50);
        x.submit(0, 0, 9, 3, 50);
        x.hold(0, 0);
        int[] states = {JobBoard.RETRYING, JobBoard.RESERVED, JobBoard.READY, JobBoard.SCHEDULED, JobBoard.HELD};
        for (int i = 0; i < states.length; i++) {
            CHECKS.due("the state of job " + (i + 1), x.state(i + 1), states[i]);
            CHECKS.due("join in state " + states[i], x.join(i + 1, 0), JobBoard.OK);
            CHECKS.due("its state stays", x.state(i + 1), states[i]);
            CHECKS.due("members", x.due(0), i + 1);
        }
    }

    private static void sealedCallbackStillTakesMembers() {
        JobBoard x = new JobBoard(0);
        x.hold(0, 0);
        x.submit(0, 0, 0, 0, 1);
        x.submit(0, 0, 0, 0, 1);
        x.join(1, 0);
        x.seal(0);
        CHECKS.due("a SEALED job is HELD", x.join(2, 0), JobBoard.OK);
        CHECKS.due("two members", x.due(0), 2);
    }

    private static void sealRefusals() {
        JobBoard x = new JobBoard(0);
        x.hold(0, 0);
        x.submit(0, 0, 0, 0, 1);
        x.join(1, 0);
        CHECKS.due("no such job", x.seal(2), JobBoard.REFUSED);
        CHECKS.due("job -1", x.seal(-1), JobBoard.REFUSED);
        CHECKS.due("not HELD", x.seal(1), JobBoard.REFUSED);
        CHECKS.due("no record", x.count(9), 3);
        CHECKS.due("seal", x.seal(0), JobBoard.OK);
        CHECKS.due("a record", x.count(9), 4);
        CHECKS.due("it stays HELD", x.state(0), JobBoard.HELD);
        CHECKS.due("SEALED already", x.seal(0), JobBoard.REFUSED);
        CHECKS.due("no record more", x.count(9), 4);
    }

    private static void sealWithoutMembers() {
        JobBoard x = new JobBoard(0);
        x.hold(1, 3);
        x.submit(1, 3, 0, 0, 1);
        CHECKS.due("seal", x.seal(0), JobBoard.OK);
        CHECKS.due("READY at once", x.state(0), JobBoard.READY);
        CHECKS.due("no due any more", x.due(0), JobBoard.NONE);
        CHECKS.line("it became READY later", x, 1, 1, 0);
        CHECKS.due("READY: not HELD", x.seal(0), JobBoard.REFUSED);
        x.kill(0);
        x.revive(0);
        CHECKS.due("revived: not HELD", x.seal(0), JobBoard.REFUSED);
    }

    private static void ackRefusals() {
        JobBoard x = new JobBoard(0);
        x.submit(0, 0, 0, 0, 1);
        x.take(2, 5);
        int[] bad = {-1, 6, 0, 1, 5, Integer.MIN_VALUE, Integer.MAX_VALUE};
        for (int w : bad) {
            CHECKS.due("ack(" + w + ")", x.ack(w), JobBoard.REFUSED);
        }
        CHECKS.due("no record", x.count(9), 2);
        CHECKS.due("ack", x.ack(2), 0);
        CHECKS.due("a record", x.count(9), 3);
        CHECKS.due("DONE", x.state(0), JobBoard.DONE);
        CHECKS.due("no due", x.due(0), JobBoard.NONE);
        CHECKS.due("the worker has none", x.holding(2), JobBoard.NONE);
        CHECKS.due("ack again", x.ack(2), JobBoard.REFUSED);
        x.tick(100);
        CHECKS.due("DONE for good", x.state(0), JobBoard.DONE);
    }

    private static void lastAckReleasesTheSealed() {
        JobBoard x = new JobBoard(0);
        x.hold(3, 0);
        x.submit(0, 0, 0, 0, 1);
        x.submit(0, 0, 0, 0, 1);
        x.join(1, 0);
        x.join(2, 0);
        x.seal(0);
        x.take(0, 5);
        x.take(1, 5);
        x.ack(0);
        CHECKS.due("one member is left", x.due(0), 1);
        CHECKS.due("it is HELD", x.state(0), JobBoard.HELD);
        int unflushed = x.count(9);
        x.ack(1);
        CHECKS.due("READY", x.state(0), JobBoard.READY);
        CHECKS.line("in its line", x, 3, 0);
        CHECKS.due("one record for both changes", x.count(9), unflushed + 1);
    }

    private static void unsealedIsNotReleased() {
        JobBoard x = new JobBoard(0);
        x.hold(3, 0);
        x.submit(0, 0, 0, 0, 1);
        x.join(1, 0);
        x.take(0, 5);
        x.ack(0);
        CHECKS.due("no members", x.due(0), 0);
        CHECKS.due("not SEALED: HELD", x.state(0), JobBoard.HELD);
        CHECKS.due("seal", x.seal(0), JobBoard.OK);
        CHECKS.due("READY now", x.state(0), JobBoard.READY);
    }

    private static void callbackThatIsNotHeld() {
        JobBoard x = new JobBoard(0);
        x.hold(3, 0);
        x.submit(0, 0, 0, 0, 1);
        x.join(1, 0);
        x.seal(0);
        x.kill(0);
        x.take(0, 5);
        CHECKS.due("ack", x.ack(0), 1);
        CHECKS.due("a DEAD callback stays DEAD", x.state(0), JobBoard.DEAD);
        JobBoard y = new JobBoard(0);
        y.hold(3, 0);
        y.submit(0, 0, 0, 0, 1);
        y.join(1, 0);
        y.seal(0);
        y.kill(0);
        y.revive(0);
        y.submit(3, 0, 0, 0, 1);
        y.take(0, 5);
        y.ack(0);
        CHECKS.line("a READY callback keeps its place", y, 3, 0, 2);
    }

    private static void deadMemberKeepsItsPlace() {
        JobBoard x = new JobBoard(0);
        x.hold(3, 0);
        x.submit(0, 0, 0, 0, 1);
        x.join(1, 0);
        x.seal(0);
        x.kill(1);
        CHECKS.due("still a member", x.due(0), 1);
        x.revive(1);
        CHECKS.due("it still has a callback", x.join(1, 0), JobBoard.REFUSED);
        x.take(0, 5);
        x.ack(0);
        CHECKS.due("the callback is READY", x.state(0), JobBoard.READY);
    }

    private static void callbackOfACallback() {
        JobBoard x = new JobBoard(0);
        x.hold(0, 0);
        x.hold(0, 0);
        x.submit(0, 0, 0, 0, 1);
        x.join(2, 1);
        x.join(1, 0);
        x.seal(0);
        x.seal(1);
        x.take(0, 5);
        x.ack(0);
        CHECKS.due("the first callback is READY", x.state(1), JobBoard.READY);
        CHECKS.due("the second waits for the first", x.state(0), JobBoard.HELD);
        CHECKS.due("take the first", x.take(0, 5), 1);
        x.ack(0);
        CHECKS.due("the second is READY", x.state(0), JobBoard.READY);
    }

    private static void callbacksOfEachOther() {
        JobBoard x = new JobBoard(0);
        x.hold(0, 0);
        x.hold(0, 0);
        CHECKS.due("0 waits for 1", x.join(1, 0), JobBoard.OK);
        CHECKS.due("1 waits for 0", x.join(0, 1), JobBoard.OK);
        x.seal(0);
        x.seal(1);
        CHECKS.due("both are HELD", x.count(JobBoard.HELD), 2);
    }

    /** One callback with 39 members, the most that a board has room for. */
    private static void callbackOfAllOtherJobs() {
        JobBoard x = new JobBoard(0);
        int callback = x.hold(3, 0);
        Moves.submitMany(x, 0, 39);
        for (int job = 1; job <= 39; job++) {
            CHECKS.due("join(" + job + ", 0)", x.join(job, callback), JobBoard.OK);
        }
        CHECKS.due("members", x.due(callback), 39);
        x.seal(callback);
        CHECKS.due("38 are served", Moves.serveMany(x, 38), 38);
        CHECKS.due("one is left", x.due(callback), 1);
        CHECKS.due("HELD", x.state(callback), JobBoard.HELD);
        CHECKS.due("the last one", Moves.serve(x), 39);
        CHECKS.due("READY", x.state(callback), JobBoard.READY);
    }

    /** "READY if it has no members": with one it stays HELD, and so it does at each ack but the last. */
    private static void sealAfterTheLastMember() {
        for (int acked = 0; acked <= 2; acked++) {
            JobBoard x = new JobBoard(0);
            int callback = x.hold(3, 0);
            Moves.submitMany(x, 0, 2);
            x.join(1, callback);
            x.join(2, callback);
            CHECKS.due("served", Moves.serveMany(x, acked), acked);
            CHECKS.due("members", x.due(callback), 2 - acked);
            CHECKS.due("seal", x.seal(callback), JobBoard.OK);
            CHECKS.due("its state", x.state(callback), acked == 2 ? JobBoard.READY : JobBoard.HELD);
        }
    }

    /** "If it has a callback": without one no other job changes. */
    private static void ackOfAJobWithoutACallback() {
        JobBoard x = new JobBoard(0);
        int callback = x.hold(3, 0);
        Moves.submitMany(x, 0, 2);
        x.join(2, callback);
        x.seal(callback);
        CHECKS.due("ack", Moves.serve(x), 1);
        CHECKS.due("the callback keeps its member", x.due(callback), 1);
        CHECKS.due("the member", x.state(2), JobBoard.READY);
    }

    /** A member leaves its callback by ack alone, not by a failure that is retried or not. */
    private static void failedMemberStillCounts() {
        JobBoard x = new JobBoard(0);
        int callback = x.hold(3, 0);
        x.submit(0, 0, 0, 1, 1);
        x.join(1, callback);
        x.seal(callback);
        for (int failures = 1; failures <= 2; failures++) {
            x.take(0, 50);
            x.fail(0);
            CHECKS.due("members after failure " + failures, x.due(callback), 1);
            x.tick(1);
        }
        CHECKS.due("the member is DEAD", x.state(1), JobBoard.DEAD);
        CHECKS.due("the callback is HELD", x.state(callback), JobBoard.HELD);
    }
}
