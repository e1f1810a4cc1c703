import java.util.function.Consumer;

/** The calls that a board has seen before a test asks it; the same past makes the same board again. */
record Past(String name, int mode, Consumer<JobBoard> calls) {
    static final int WAITING_KEY = 9;
    static final int STATES = 8;
    static final int ALL_JOBS = 40;

    JobBoard board() {
        JobBoard x = new JobBoard(mode);
        calls.accept(x);
        return x;
    }

    Past then(String what, Consumer<JobBoard> more) {
        return new Past(name + ", " + what, mode, calls.andThen(more));
    }

    static Past empty() {
        return new Past("an empty board", 0, x -> { });
    }

    /**
     * A job in every state, uneven credits, buckets with some tokens, a waiting key, which a DEAD job has,
     * and five records that are not flushed.
     */
    static Past busy(int mode) {
        return new Past("a busy board of mode " + mode, mode, Past::makeBusy);
    }

    static Past full() {
        return busy(0).filled();
    }

    Past filled() {
        return then("full", Past::fill);
    }

    static Past[] all() {
        return new Past[] {empty(), busy(0), busy(1), full()};
    }

    private static void makeBusy(JobBoard x) {
        x.queue(0, 3, 6, 7);
        x.queue(1, 2, 0, 1);
        x.queue(2, 5, 20, 50);
        for (int i = 0; i < 9; i++) {
            x.hold(3, 0);
            x.kill(i);
        }
        x.key(WAITING_KEY);
        x.kill(x.submit(3, 0, 0, 0, 1));
        x.tick(5);
        int loose = x.hold(3, 4);
        int sealed = x.hold(3, 4);
        for (int i = 0; i < 12; i++) {
            x.key(i + 10);
            x.submit(i % 3, i % 4, 0, i % 4, 10);
        }
        x.key(5);
        x.submit(1, 2, 30, 2, 10);
        x.join(x.line(0, 0), loose);
        x.join(x.line(1, 0), sealed);
        x.seal(sealed);
        x.take(0, 20);
        x.take(1, 30);
        x.ack(1);
        x.take(2, 40);
        x.fail(2);
        x.take(5, 60);
        x.flush();
        x.submit(2, 1, 3, 0, 1);
        x.take(3, 50);
        x.kill(x.line(1, 0));
        x.hold(1, 1);
        x.fail(5);
        x.key(WAITING_KEY);
    }

    private static void fill(JobBoard x) {
        x.key(-1);
        while (x.count(8) < ALL_JOBS) {
            x.submit(x.count(8) % 4, 3, 0, 0, 1);
        }
        x.key(WAITING_KEY);
    }

    /** The first job in that state, or NONE. */
    static int jobIn(JobBoard x, int state) {
        for (int job = 0; job < x.count(8); job++) {
            if (x.state(job) == state) {
                return job;
            }
        }
        return JobBoard.NONE;
    }
}
