/** The section "Terms", its journal, and what holds for every call: a test for each sentence that names a limit. */
public final class RecordTermsTest {
    private static final Checks CHECKS = new Checks("RecordTermsTest");
    private static final int TOKENS_OF_0 = 11;
    private static final int[] DUE_EFFECTS = {JobBoard.READY, JobBoard.HELD, 1, JobBoard.READY, 0, JobBoard.DONE,
        JobBoard.DEAD, JobBoard.READY, JobBoard.DEAD, JobBoard.READY};

    public static void main(String[] args) {
        sixteenthRecordFlushesAll();
        refusedCallsPutNoRecord();
        idleTickPutsNoRecord();
        recordStandsForAllChanges();
        notInTheJournal();
        numbersAreTestedFirst();
        lastOfThe512Calls();
        CHECKS.end();
    }

    /** A flushed board on which each kind of call can put a record; then so many holds. */
    private static JobBoard boardBeforeARecord(int records) {
        JobBoard x = new JobBoard(1);
        Moves.submit(x, 0);
        x.take(0, 100);
        Moves.submit(x, 0);
        x.submit(1, 0, 5, 0, 1);
        x.hold(3, 0);
        x.kill(x.hold(3, 0));
        x.flush();
        for (int i = 0; i < records; i++) {
            x.hold(2, 0);
        }
        return x;
    }

    private static int putRecord(JobBoard x, int kind) {
        switch (kind) {
            case 0: return Moves.submit(x, 0);
            case 1: return x.hold(0, 0);
            case 2: return x.join(1, 3);
            case 3: return x.seal(3);
            case 4: return x.take(1, 9);
            case 5: return x.ack(0);
            case 6: return x.fail(0);
            case 7: return x.revive(4);
            case 8: return x.kill(1);
            default: return x.tick(5);
        }
    }

    /** A taken job is READY after the crash, but behind job 0 that was taken before it. */
    private static int effectOf(JobBoard x, int kind) {
        switch (kind) {
            case 0:
            case 1: return x.state(20);
            case 2: return x.due(3);
            case 3: return x.state(3);
            case 4: return x.line(0, 0);
            case 5:
            case 6: return x.state(0);
            case 7: return x.state(4);
            case 8: return x.state(1);
            default: return x.state(2);
        }
    }

    /** "Puts one RECORD into it, after which, if 16 RECORDS are not flushed, all are flushed." */
    private static void sixteenthRecordFlushesAll() {
        for (int kind = 0; kind <= 9; kind++) {
            JobBoard x = boardBeforeARecord(14);
            CHECKS.isTrue("kind " + kind + " is not refused", putRecord(x, kind) >= 0);
            CHECKS.due("15 records with kind " + kind, x.count(9), 15);
            CHECKS.due("all 15 are lost", x.crash(0), 15);
            JobBoard y = boardBeforeARecord(15);
            CHECKS.due("15 records before kind " + kind, y.count(9), 15);
            putRecord(y, kind);
            CHECKS.due("none after kind " + kind, y.count(9), 0);
            CHECKS.due("none is lost", y.crash(0), 0);
            CHECKS.due("the 15th hold stays", y.state(19), JobBoard.HELD);
            CHECKS.due("kind " + kind + " stays too", effectOf(y, kind), DUE_EFFECTS[kind]);
        }
    }

    /** "Each [..] that is not refused": an answer below 0 puts none, NONE, FULL and DUPLICATE among them. */
    private static void refusedCallsPutNoRecord() {
        JobBoard x = boardBeforeARecord(0);
        x.key(1);
        Moves.submit(x, 0);
        x.key(1);
        x.flush();
        CHECKS.due("DUPLICATE", Moves.submit(x, 0), JobBoard.DUPLICATE);
        x.queue(0, 0, 0, 1);
        CHECKS.due("NONE", x.take(1, 5), JobBoard.NONE);
        CHECKS.due("REFUSED", x.ack(1), JobBoard.REFUSED);
        CHECKS.due("no record", x.count(9), 0);
        while (x.hold(0, 0) >= 0) {
            CHECKS.isTrue("holds until FULL", x.count(8) <= 40);
        }
        x.flush();
        CHECKS.due("FULL", x.hold(0, 0), JobBoard.FULL);
        CHECKS.due("no record of FULL", x.count(9), 0);
    }

    /** "Each tick that changes a state of a job". */
    private static void idleTickPutsNoRecord() {
        JobBoard x = boardBeforeARecord(0);
        CHECKS.due("a tick before any due time", x.tick(4), 0);
        CHECKS.due("no record", x.count(9), 0);
        CHECKS.due("a tick to a due time", x.tick(1), 1);
        CHECKS.due("a record", x.count(9), 1);
        CHECKS.due("a tick to a deadline", x.tick(95), 1);
        CHECKS.due("a record more", x.count(9), 2);
    }

    /** "A RECORD stands for all changes of jobs that its call made." */
    private static void recordStandsForAllChanges() {
        JobBoard x = new JobBoard(0);
        Moves.submit(x, 0);
        x.submit(1, 0, 5, 0, 1);
        x.submit(1, 0, 7, 0, 1);
        x.take(0, 6);
        Moves.holdAndKill(x, 8);
        x.flush();
        CHECKS.due("three change in one tick", x.tick(10), 3);
        CHECKS.due("one record", x.count(9), 1);
        CHECKS.due("the ninth of the DEAD", x.state(3), JobBoard.GONE);
        CHECKS.due("it is lost", x.crash(0), 1);
        CHECKS.due("not GONE", x.state(3), JobBoard.DEAD);
        CHECKS.due("not failed", x.failures(0), 0);
        JobBoard y = new JobBoard(0);
        int callback = y.hold(1, 0);
        int member = Moves.submit(y, 0);
        y.join(member, callback);
        y.seal(callback);
        y.take(0, 50);
        y.flush();
        y.ack(0);
        CHECKS.due("the callback is READY", y.state(callback), JobBoard.READY);
        CHECKS.due("the ack is lost", y.crash(0), 1);
        CHECKS.due("HELD with a member again", y.due(callback), 1);
        CHECKS.due("and the member READY", y.state(member), JobBoard.READY);
    }

    /** "Time, the queues' weights, credits and buckets and the waiting key are not in the journal." */
    private static void notInTheJournal() {
        JobBoard x = new JobBoard(0);
        Moves.submit(x, 0);
        x.flush();
        x.queue(0, 0, 7, 3);
        x.key(4);
        x.tick(6);
        CHECKS.due("they put no record", x.count(9), 0);
        CHECKS.due("nothing is lost", x.crash(0), 0);
        CHECKS.due("time stays", x.count(10), 6);
        CHECKS.due("the capacity stays", x.count(TOKENS_OF_0), 7);
        CHECKS.due("the weight stays", x.take(0, 5), JobBoard.NONE);
    }

    /** "In every call numbers are tested first": REFUSED comes before FULL, DUPLICATE and NONE. */
    private static void numbersAreTestedFirst() {
        JobBoard x = new JobBoard(0);
        x.key(2);
        Moves.submit(x, 0);
        x.key(2);
        CHECKS.due("before DUPLICATE", x.submit(0, 0, 0, 0, 51), JobBoard.REFUSED);
        x.queue(0, 0, 0, 1);
        CHECKS.due("before NONE of take", x.take(0, 101), JobBoard.REFUSED);
        CHECKS.due("before NONE of line", x.line(4, 40), JobBoard.REFUSED);
        while (x.count(8) < 40) {
            x.hold(0, 0);
        }
        CHECKS.due("before FULL of hold", x.hold(0, 10), JobBoard.REFUSED);
        CHECKS.due("before FULL of submit", x.submit(0, 0, 1001, 0, 1), JobBoard.REFUSED);
    }

    /** "An object is used for at most 512 calls": the last of them is still as due, with the longest ticks. */
    private static void lastOfThe512Calls() {
        JobBoard x = new JobBoard(0);
        x.queue(0, 1, 20, 50);
        x.submit(0, 0, 1000, 0, 1);
        CHECKS.due("the third call", x.tick(1000), 1);
        for (int call = 4; call <= 508; call++) {
            x.tick(1000);
        }
        x.submit(0, 0, 1000, 0, 1);
        CHECKS.due("call 510: a due time", x.due(1), 507_000);
        CHECKS.due("call 511: the tick", x.tick(1000), 1);
        CHECKS.due("call 512: time", x.count(10), 507_000);
    }
}
