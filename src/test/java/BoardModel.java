import java.util.ArrayList;
import java.util.Comparator;
import java.util.List;
import java.util.function.Consumer;

/**
 * The document once more, written another way than the program, so that the two can be compared:
 * lines are lists, time passes one by one, and a crash makes all jobs anew by going through the
 * records from the first one on.
 */
final class BoardModel {
    private static final class Job {
        int queue;
        int priority;
        int limit;
        int base;
        int key = -1;
        int failures;
        int callback = -1;
        int members;
        boolean sealed;
        int state;
        int moment;
    }

    /** All that is in the journal. */
    private static final class World {
        final List<Job> jobs = new ArrayList<>();
        final List<List<Integer>> lines = List.of(
                new ArrayList<>(), new ArrayList<>(), new ArrayList<>(), new ArrayList<>());
        final List<Integer> dead = new ArrayList<>();
        final int[] workers = {-1, -1, -1, -1, -1, -1};

        void ready(int number) {
            Job job = jobs.get(number);
            job.state = JobBoard.READY;
            List<Integer> line = lines.get(job.queue);
            int place = 0;
            while (place < line.size() && jobs.get(line.get(place)).priority >= job.priority) {
                place++;
            }
            line.add(place, number);
        }

        void dies(int number) {
            lines.get(jobs.get(number).queue).remove((Integer) number);
            if (dead.size() == 8) {
                jobs.get(dead.remove(0)).state = JobBoard.GONE;
            }
            dead.add(number);
            jobs.get(number).state = JobBoard.DEAD;
        }

        void fails(int number, int now) {
            Job job = jobs.get(number);
            leaveWorker(number);
            job.failures++;
            if (job.failures > job.limit) {
                dies(number);
                return;
            }
            int delay = job.base;
            for (int i = 1; i < job.failures; i++) {
                delay *= 2;
            }
            job.state = JobBoard.RETRYING;
            job.moment = now + (delay > 500 ? 500 : delay);
        }

        void leaveWorker(int number) {
            for (int w = 0; w < 6; w++) {
                if (workers[w] == number) {
                    workers[w] = -1;
                }
            }
        }

        List<Integer> dueAt(int now) {
            List<Integer> due = new ArrayList<>();
            for (int i = 0; i < jobs.size(); i++) {
                int state = jobs.get(i).state;
                boolean timed = state == JobBoard.SCHEDULED || state == JobBoard.RETRYING || state == JobBoard.RESERVED;
                if (timed && jobs.get(i).moment <= now) {
                    due.add(i);
                }
            }
            due.sort(Comparator.comparingInt(i -> jobs.get(i).moment));
            return due;
        }

        void settle(int now) {
            for (int number : dueAt(now)) {
                if (jobs.get(number).state == JobBoard.RESERVED) {
                    fails(number, now);
                } else {
                    ready(number);
                }
            }
        }

        void restart(int now) {
            for (int i = 0; i < jobs.size(); i++) {
                if (jobs.get(i).state == JobBoard.RESERVED) {
                    leaveWorker(i);
                    ready(i);
                }
            }
            settle(now);
        }

        boolean live(int number) {
            int state = jobs.get(number).state;
            return state <= JobBoard.RETRYING || state == JobBoard.HELD;
        }

        boolean keyIsTaken(int key) {
            for (int i = 0; i < jobs.size(); i++) {
                if (key >= 0 && jobs.get(i).key == key && live(i)) {
                    return true;
                }
            }
            return false;
        }
    }

    private final boolean strict;
    private final int[] weight = {1, 1, 1, 1};
    private final int[] credit = new int[4];
    private final int[] capacity = new int[4];
    private final int[] tokens = new int[4];
    private final int[] refill = {1, 1, 1, 1};
    private final int[] start = new int[4];
    private final List<Consumer<World>> records = new ArrayList<>();
    private World world = new World();
    private int flushed;
    private int time;
    private int waitingKey = -1;

    BoardModel(int mode) {
        strict = mode == 1;
    }

    private static boolean out(int number, int least, int greatest) {
        return number < least || number > greatest;
    }

    private boolean noJob(int number) {
        return out(number, 0, world.jobs.size() - 1);
    }

    private void record(Consumer<World> change) {
        change.accept(world);
        records.add(change);
        if (records.size() - flushed == 16) {
            flushed = records.size();
        }
    }

    int queue(int q, int newWeight, int newCapacity, int newRefill) {
        if (out(q, 0, 3) || out(newWeight, 0, 8) || out(newCapacity, 0, 20) || out(newRefill, 1, 50)) {
            return JobBoard.REFUSED;
        }
        weight[q] = newWeight;
        capacity[q] = newCapacity;
        refill[q] = newRefill;
        credit[q] = 0;
        tokens[q] = newCapacity;
        start[q] = time;
        return JobBoard.OK;
    }

    int key(int k) {
        if (out(k, -1, 31)) {
            return JobBoard.REFUSED;
        }
        waitingKey = k;
        return JobBoard.OK;
    }

    int submit(int q, int priority, int delay, int limit, int base) {
        if (out(q, 0, 3) || out(priority, 0, 9) || out(delay, 0, 1000) || out(limit, 0, 5) || out(base, 1, 50)) {
            return JobBoard.REFUSED;
        }
        if (world.keyIsTaken(waitingKey)) {
            return JobBoard.DUPLICATE;
        }
        if (world.jobs.size() == 40) {
            return JobBoard.FULL;
        }
        int key = waitingKey;
        int moment = time + delay;
        waitingKey = -1;
        record(w -> {
            Job job = new Job();
            job.queue = q;
            job.priority = priority;
            job.limit = limit;
            job.base = base;
            job.key = key;
            job.state = JobBoard.SCHEDULED;
            job.moment = moment;
            w.jobs.add(job);
            if (delay == 0) {
                w.ready(w.jobs.size() - 1);
            }
        });
        return world.jobs.size() - 1;
    }

    int hold(int q, int priority) {
        if (out(q, 0, 3) || out(priority, 0, 9)) {
            return JobBoard.REFUSED;
        }
        if (world.jobs.size() == 40) {
            return JobBoard.FULL;
        }
        record(w -> {
            Job job = new Job();
            job.queue = q;
            job.priority = priority;
            job.base = 1;
            job.state = JobBoard.HELD;
            w.jobs.add(job);
        });
        return world.jobs.size() - 1;
    }

    int join(int job, int callback) {
        if (noJob(job) || noJob(callback) || !world.live(job) || world.jobs.get(job).callback >= 0
                || world.jobs.get(callback).state != JobBoard.HELD || job == callback) {
            return JobBoard.REFUSED;
        }
        record(w -> {
            w.jobs.get(job).callback = callback;
            w.jobs.get(callback).members++;
        });
        return JobBoard.OK;
    }

    int seal(int job) {
        if (noJob(job) || world.jobs.get(job).state != JobBoard.HELD || world.jobs.get(job).sealed) {
            return JobBoard.REFUSED;
        }
        record(w -> {
            w.jobs.get(job).sealed = true;
            if (w.jobs.get(job).members == 0) {
                w.ready(job);
            }
        });
        return JobBoard.OK;
    }

    private List<Integer> openQueues() {
        List<Integer> open = new ArrayList<>();
        for (int q = 0; q < 4; q++) {
            if (weight[q] > 0 && !world.lines.get(q).isEmpty() && (capacity[q] == 0 || tokens[q] > 0)) {
                open.add(q);
            }
        }
        return open;
    }

    private int choose(List<Integer> open) {
        if (strict) {
            return open.get(0);
        }
        int sum = 0;
        int best = Integer.MIN_VALUE;
        for (int q : open) {
            credit[q] += weight[q];
            sum += weight[q];
            best = Math.max(best, credit[q]);
        }
        for (int q : open) {
            if (credit[q] == best) {
                credit[q] -= sum;
                return q;
            }
        }
        throw new IllegalStateException("no queue has the best credit");
    }

    int take(int worker, int lease) {
        if (out(worker, 0, 5) || out(lease, 1, 100) || world.workers[worker] >= 0) {
            return JobBoard.REFUSED;
        }
        List<Integer> open = openQueues();
        if (open.isEmpty()) {
            return JobBoard.NONE;
        }
        int q = choose(open);
        if (capacity[q] > 0) {
            tokens[q]--;
        }
        int deadline = time + lease;
        record(w -> {
            int number = w.lines.get(q).remove(0);
            w.workers[worker] = number;
            w.jobs.get(number).state = JobBoard.RESERVED;
            w.jobs.get(number).moment = deadline;
        });
        return world.workers[worker];
    }

    int ack(int worker) {
        if (out(worker, 0, 5) || world.workers[worker] < 0) {
            return JobBoard.REFUSED;
        }
        int number = world.workers[worker];
        record(w -> {
            w.leaveWorker(number);
            w.jobs.get(number).state = JobBoard.DONE;
            int callback = w.jobs.get(number).callback;
            if (callback >= 0) {
                Job waiting = w.jobs.get(callback);
                waiting.members--;
                if (waiting.state == JobBoard.HELD && waiting.sealed && waiting.members == 0) {
                    w.ready(callback);
                }
            }
        });
        return number;
    }

    int fail(int worker) {
        if (out(worker, 0, 5) || world.workers[worker] < 0) {
            return JobBoard.REFUSED;
        }
        int number = world.workers[worker];
        int now = time;
        record(w -> w.fails(number, now));
        return number;
    }

    int tick(int n) {
        if (out(n, 1, 1000)) {
            return JobBoard.REFUSED;
        }
        for (int i = 0; i < n; i++) {
            time++;
            for (int q = 0; q < 4; q++) {
                if ((time - start[q]) % refill[q] == 0 && tokens[q] < capacity[q]) {
                    tokens[q]++;
                }
            }
        }
        int now = time;
        int due = world.dueAt(now).size();
        if (due > 0) {
            record(w -> w.settle(now));
        }
        return due;
    }

    int revive(int job) {
        if (noJob(job) || world.jobs.get(job).state != JobBoard.DEAD) {
            return JobBoard.REFUSED;
        }
        if (world.keyIsTaken(world.jobs.get(job).key)) {
            return JobBoard.DUPLICATE;
        }
        record(w -> {
            w.dead.remove((Integer) job);
            w.jobs.get(job).failures = 0;
            w.ready(job);
        });
        return JobBoard.OK;
    }

    int kill(int job) {
        if (noJob(job) || !world.live(job) || world.jobs.get(job).state == JobBoard.RESERVED) {
            return JobBoard.REFUSED;
        }
        record(w -> w.dies(job));
        return JobBoard.OK;
    }

    int flush() {
        int unflushed = records.size() - flushed;
        flushed = records.size();
        return unflushed;
    }

    int crash(int keep) {
        int lost = 0;
        while (records.size() > flushed && records.size() - flushed > keep) {
            records.remove(records.size() - 1);
            lost++;
        }
        int now = time;
        records.add(w -> w.restart(now));
        flushed = records.size();
        world = new World();
        for (Consumer<World> change : records) {
            change.accept(world);
        }
        for (int q = 0; q < 4; q++) {
            credit[q] = 0;
            tokens[q] = capacity[q];
        }
        waitingKey = -1;
        return lost;
    }

    int state(int job) {
        return noJob(job) ? JobBoard.REFUSED : world.jobs.get(job).state;
    }

    int failures(int job) {
        return noJob(job) ? JobBoard.REFUSED : world.jobs.get(job).failures;
    }

    int due(int job) {
        if (noJob(job)) {
            return JobBoard.REFUSED;
        }
        switch (world.jobs.get(job).state) {
            case JobBoard.SCHEDULED:
            case JobBoard.RETRYING:
            case JobBoard.RESERVED:
                return world.jobs.get(job).moment;
            case JobBoard.HELD:
                return world.jobs.get(job).members;
            default:
                return JobBoard.NONE;
        }
    }

    int holding(int worker) {
        if (out(worker, 0, 5)) {
            return JobBoard.REFUSED;
        }
        return world.workers[worker] < 0 ? JobBoard.NONE : world.workers[worker];
    }

    int line(int q, int k) {
        if (out(q, 0, 3)) {
            return JobBoard.REFUSED;
        }
        return out(k, 0, world.lines.get(q).size() - 1) ? JobBoard.NONE : world.lines.get(q).get(k);
    }

    int count(int what) {
        if (out(what, 0, 14)) {
            return JobBoard.REFUSED;
        }
        if (what <= JobBoard.GONE) {
            return (int) world.jobs.stream().filter(job -> job.state == what).count();
        }
        if (what == 8) {
            return world.jobs.size();
        }
        if (what == 9) {
            return records.size() - flushed;
        }
        return what == 10 ? time : tokens[what - 11];
    }
}
