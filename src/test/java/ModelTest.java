import java.util.Random;

/**
 * All promises at once: long runs of calls, chosen by a fixed seed, whose answers must be those of
 * BoardModel. A run ends by reading all that can be read, within its 512 calls.
 */
public final class ModelTest {
    private static final int RUNS = 6000;
    private static final int CALLS_BEFORE_READING_ALL = 310;
    private static final int MAX_CALLS = 512;
    private static final int KINDS = 20;
    private static final int[] MODES = {0, 1, 2, -1};
    private static final int[] EXTREMES = {Integer.MIN_VALUE, -2, -1, 1001, 1 << 30, Integer.MAX_VALUE};

    private final Checks checks = new Checks("ModelTest");
    private final Random random = new Random(20261115);
    private int[] shares;
    private int longestTick;
    private int jobRange;
    private JobBoard board;
    private BoardModel model;
    private int run;
    private int calls;

    public static void main(String[] args) {
        new ModelTest().compareRuns();
    }

    private void compareRuns() {
        for (run = 0; run < RUNS && checks.allRight(); run++) {
            beginRun();
            int length = random.nextInt(CALLS_BEFORE_READING_ALL) + 1;
            while (calls < length && checks.allRight()) {
                call(pickKind());
            }
            readAll();
        }
        checks.end();
    }

    /** Each run has its own mix of calls, so that some boards fill, some die and some crash often. */
    private void beginRun() {
        int mode = MODES[random.nextInt(MODES.length)];
        board = new JobBoard(mode);
        model = new BoardModel(mode);
        calls = 0;
        shares = new int[KINDS];
        for (int kind = 0; kind < KINDS; kind++) {
            shares[kind] = random.nextInt(kind < 14 ? 10 : 2);
        }
        shares[2] += 6;
        shares[6] += 6;
        shares[13] = random.nextInt(3);
        longestTick = random.nextInt(3) == 0 ? 1000 : 12;
        jobRange = 8 + random.nextInt(33);
    }

    private int pickKind() {
        int sum = 0;
        for (int share : shares) {
            sum += share;
        }
        int at = random.nextInt(sum);
        int kind = 0;
        while (at >= shares[kind]) {
            at -= shares[kind];
            kind++;
        }
        return kind;
    }

    /** Mostly within the range, at times just out of it or far away. */
    private int number(int least, int greatest) {
        int luck = random.nextInt(120);
        if (luck == 0) {
            return EXTREMES[random.nextInt(EXTREMES.length)];
        }
        if (luck == 1) {
            return least - 1;
        }
        if (luck == 2) {
            return greatest + 1;
        }
        return least + random.nextInt(greatest - least + 1);
    }

    private int job() {
        return number(0, Math.min(jobRange, model.count(8)));
    }

    private int delay() {
        return random.nextBoolean() ? 0 : number(0, longestTick == 1000 ? 1000 : 20);
    }

    private void call(int kind) {
        int a = 0;
        switch (kind) {
            case 0 -> set(number(0, 3), number(0, 8), number(0, 20), number(1, 50));
            case 1 -> {
                a = random.nextInt(3) == 0 ? number(-1, 31) : number(0, 4);
                same("key(" + a + ")", board.key(a), model.key(a));
            }
            case 2 -> submit(number(0, 3), number(0, 9), delay(), number(0, 5), number(1, 50));
            case 3 -> hold(number(0, 3), number(0, 9));
            case 4 -> join(job(), job());
            case 5 -> {
                a = job();
                same("seal(" + a + ")", board.seal(a), model.seal(a));
            }
            case 6 -> take(number(0, 5), number(1, 100));
            case 7 -> {
                a = number(0, 5);
                same("ack(" + a + ")", board.ack(a), model.ack(a));
            }
            case 8 -> {
                a = number(0, 5);
                same("fail(" + a + ")", board.fail(a), model.fail(a));
            }
            case 9 -> {
                a = number(1, longestTick);
                same("tick(" + a + ")", board.tick(a), model.tick(a));
            }
            case 10 -> {
                a = job();
                same("revive(" + a + ")", board.revive(a), model.revive(a));
            }
            case 11 -> {
                a = job();
                same("kill(" + a + ")", board.kill(a), model.kill(a));
            }
            case 12 -> same("flush()", board.flush(), model.flush());
            case 13 -> {
                a = number(-1, 16);
                same("crash(" + a + ")", board.crash(a), model.crash(a));
            }
            default -> read(kind, job());
        }
    }

    private void read(int kind, int job) {
        int a = number(0, 14);
        switch (kind) {
            case 14 -> same("state(" + job + ")", board.state(job), model.state(job));
            case 15 -> same("failures(" + job + ")", board.failures(job), model.failures(job));
            case 16 -> same("due(" + job + ")", board.due(job), model.due(job));
            case 17 -> same("holding(" + a + ")", board.holding(a), model.holding(a));
            case 18 -> same("line(" + a + ", " + job + ")", board.line(a, job), model.line(a, job));
            default -> same("count(" + a + ")", board.count(a), model.count(a));
        }
    }

    private void set(int q, int weight, int capacity, int refill) {
        same("queue(" + q + ", " + weight + ", " + capacity + ", " + refill + ")",
                board.queue(q, weight, capacity, refill), model.queue(q, weight, capacity, refill));
    }

    private void submit(int q, int priority, int delay, int limit, int base) {
        same("submit(" + q + ", " + priority + ", " + delay + ", " + limit + ", " + base + ")",
                board.submit(q, priority, delay, limit, base), model.submit(q, priority, delay, limit, base));
    }

    private void hold(int q, int priority) {
        same("hold(" + q + ", " + priority + ")", board.hold(q, priority), model.hold(q, priority));
    }

    private void join(int job, int callback) {
        same("join(" + job + ", " + callback + ")", board.join(job, callback), model.join(job, callback));
    }

    private void take(int w, int lease) {
        same("take(" + w + ", " + lease + ")", board.take(w, lease), model.take(w, lease));
    }

    private void readAll() {
        for (int what = 0; what < 15; what++) {
            same("at the end, count(" + what + ")", board.count(what), model.count(what));
        }
        for (int job = 0; job < model.count(8); job++) {
            same("at the end, state(" + job + ")", board.state(job), model.state(job));
            same("at the end, failures(" + job + ")", board.failures(job), model.failures(job));
            same("at the end, due(" + job + ")", board.due(job), model.due(job));
        }
        for (int w = 0; w < 6; w++) {
            same("at the end, holding(" + w + ")", board.holding(w), model.holding(w));
        }
        for (int q = 0; q < 4; q++) {
            int k = 0;
            do {
                same("at the end, line(" + q + ", " + k + ")", board.line(q, k), model.line(q, k));
                k++;
            } while (model.line(q, k - 1) >= 0);
        }
    }

    private void same(String what, int got, int want) {
        calls++;
        if (calls > MAX_CALLS) {
            throw new IllegalStateException("the run is too long");
        }
        checks.due("run " + run + ", call " + calls + ": " + what, got, want);
    }
}
