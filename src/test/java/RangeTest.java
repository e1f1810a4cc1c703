import java.util.Arrays;
import java.util.function.Consumer;

/**
 * "In every call numbers are tested first: one out of its range is REFUSED, a job number that no job has,
 * too." For each number of each call: the last ones inside its range are taken, the first ones outside and
 * the least and greatest int are REFUSED and change nothing.
 */
public final class RangeTest {
    private static final Checks CHECKS = new Checks("RangeTest");
    private static final Twins TWINS = new Twins(CHECKS);

    interface Ask {
        int on(JobBoard x, int[] numbers);
    }

    /** A call with the ranges of its numbers, each told by its least and its greatest. */
    record Call(String name, Ask ask, int[]... ranges) {
        int[] leasts() {
            return Arrays.stream(ranges).mapToInt(range -> range[0]).toArray();
        }

        int[] greatests() {
            return Arrays.stream(ranges).mapToInt(range -> range[1]).toArray();
        }

        String told(int[] numbers) {
            return name + Arrays.toString(numbers);
        }
    }

    private static final int[] QUEUE = {0, 3};
    private static final int[] PRIORITY = {0, 9};
    private static final int[] WORKER = {0, 5};

    private static final Call SET = new Call("queue", (x, n) -> x.queue(n[0], n[1], n[2], n[3]),
            QUEUE, new int[] {0, 8}, new int[] {0, 20}, new int[] {1, 50});
    private static final Call KEY = new Call("key", (x, n) -> x.key(n[0]), new int[] {-1, 31});
    private static final Call SUBMIT = new Call("submit", (x, n) -> x.submit(n[0], n[1], n[2], n[3], n[4]),
            QUEUE, PRIORITY, new int[] {0, 1000}, new int[] {0, 5}, new int[] {1, 50});
    private static final Call HOLD = new Call("hold", (x, n) -> x.hold(n[0], n[1]), QUEUE, PRIORITY);
    private static final Call TAKE = new Call("take", (x, n) -> x.take(n[0], n[1]), WORKER, new int[] {1, 100});
    private static final Call ACK = new Call("ack", (x, n) -> x.ack(n[0]), WORKER);
    private static final Call FAIL = new Call("fail", (x, n) -> x.fail(n[0]), WORKER);
    private static final Call TICK = new Call("tick", (x, n) -> x.tick(n[0]), new int[] {1, 1000});
    private static final Call HOLDING = new Call("holding", (x, n) -> x.holding(n[0]), WORKER);
    private static final Call LINE = new Call("line", (x, n) -> x.line(n[0], 0), QUEUE);
    private static final Call COUNT = new Call("count", (x, n) -> x.count(n[0]), new int[] {0, 14});

    private static final Call[] CALLS = {SET, KEY, SUBMIT, HOLD, TAKE, ACK, FAIL, TICK, HOLDING, LINE, COUNT};

    public static void main(String[] args) {
        for (Past past : Past.all()) {
            for (Call call : CALLS) {
                refusedOutside(past, call);
            }
            refusedWithoutSuchAJob(past);
        }
        takenInside(SET, x -> { });
        takenInside(KEY, x -> { });
        takenInside(SUBMIT, x -> { });
        takenInside(HOLD, x -> { });
        takenInside(TAKE, x -> x.submit(0, 0, 0, 0, 1));
        takenInside(ACK, RangeTest::everyWorkerTakes);
        takenInside(FAIL, RangeTest::everyWorkerTakes);
        takenInside(TICK, x -> { });
        takenInside(HOLDING, RangeTest::everyWorkerTakes);
        takenInside(LINE, RangeTest::everyLineHasAJob);
        takenInside(COUNT, x -> { });
        firstAndLastJob();
        CHECKS.end();
    }

    /** Each number in turn is out of its range, the others being the least and then the greatest. */
    private static void refusedOutside(Past past, Call call) {
        for (int i = 0; i < call.ranges().length; i++) {
            int[] range = call.ranges()[i];
            int[] outside = {range[0] - 1, range[1] + 1, Integer.MIN_VALUE, Integer.MAX_VALUE};
            for (int bad : outside) {
                refusedWith(past, call, call.leasts(), i, bad);
                refusedWith(past, call, call.greatests(), i, bad);
            }
        }
    }

    private static void refusedWith(Past past, Call call, int[] numbers, int place, int bad) {
        numbers[place] = bad;
        TWINS.refused(call.told(numbers), past, JobBoard.REFUSED, x -> call.ask().on(x, numbers));
    }

    private static void refusedWithoutSuchAJob(Past past) {
        int jobs = past.board().count(8);
        int[] none = {-1, jobs, 40, Integer.MIN_VALUE, Integer.MAX_VALUE};
        int held = Past.jobIn(past.board(), JobBoard.HELD);
        int ready = Past.jobIn(past.board(), JobBoard.READY);
        for (int job : none) {
            noSuchJob("join its job", past, x -> x.join(job, held));
            noSuchJob("join its callback", past, x -> x.join(ready, job));
            noSuchJob("join both", past, x -> x.join(job, job));
            noSuchJob("seal", past, x -> x.seal(job));
            noSuchJob("revive", past, x -> x.revive(job));
            noSuchJob("kill", past, x -> x.kill(job));
            noSuchJob("state", past, x -> x.state(job));
            noSuchJob("failures", past, x -> x.failures(job));
            noSuchJob("due", past, x -> x.due(job));
        }
    }

    private static void noSuchJob(String what, Past past, Twins.Call call) {
        TWINS.refused(what + ", no job having the number", past, JobBoard.REFUSED, call);
    }

    /** With every choice of least and greatest numbers the call is not refused. */
    private static void takenInside(Call call, Consumer<JobBoard> before) {
        int places = call.ranges().length;
        for (int choice = 0; choice < 1 << places; choice++) {
            int[] numbers = new int[places];
            for (int i = 0; i < places; i++) {
                numbers[i] = call.ranges()[i][choice >> i & 1];
            }
            JobBoard x = new JobBoard(0);
            before.accept(x);
            CHECKS.isTrue(call.told(numbers) + " is not refused", call.ask().on(x, numbers) >= 0);
        }
    }

    private static void everyWorkerTakes(JobBoard x) {
        for (int w = 0; w <= 5; w++) {
            x.submit(0, 0, 0, 0, 1);
            x.take(w, 50);
        }
    }

    private static void everyLineHasAJob(JobBoard x) {
        for (int q = 0; q <= 3; q++) {
            x.submit(q, 0, 0, 0, 1);
        }
    }

    /** The numbers 0 and 39 of a full board are taken as job numbers. */
    private static void firstAndLastJob() {
        JobBoard x = new JobBoard(0);
        for (int i = 0; i < 40; i++) {
            x.hold(0, 0);
        }
        int[] jobs = {0, 39};
        for (int job : jobs) {
            CHECKS.due("state(" + job + ")", x.state(job), JobBoard.HELD);
            CHECKS.due("failures(" + job + ")", x.failures(job), 0);
            CHECKS.due("join(" + job + ", the other)", x.join(job, 39 - job), JobBoard.OK);
            CHECKS.due("due(" + (39 - job) + ")", x.due(39 - job), 1);
        }
        for (int job : jobs) {
            CHECKS.due("seal(" + job + ")", x.seal(job), JobBoard.OK);
            CHECKS.due("kill(" + job + ")", x.kill(job), JobBoard.OK);
            CHECKS.due("revive(" + job + ")", x.revive(job), JobBoard.OK);
        }
    }
}
