/**
 * A board of background jobs: weighted queues with rate limits, reservations that expire, retries
 * with growing delays, dead jobs, callbacks that wait for other jobs, and a journal from which the
 * board begins again after a crash.
 */
public final class JobBoard {
    public static final int OK = 0;
    public static final int REFUSED = -1;
    public static final int FULL = -2;
    public static final int DUPLICATE = -3;
    public static final int NONE = -4;
    public static final int SCHEDULED = 0;
    public static final int READY = 1;
    public static final int RESERVED = 2;
    public static final int RETRYING = 3;
    public static final int DONE = 4;
    public static final int DEAD = 5;
    public static final int HELD = 6;
    public static final int GONE = 7;

    private static final int STRICT_MODE = 1;
    private static final int QUEUES = 4;
    private static final int MAX_WEIGHT = 8;
    private static final int MAX_CAPACITY = 20;
    private static final int MAX_REFILL = 50;
    private static final int MAX_JOBS = 40;
    private static final int MAX_DEAD = 8;
    private static final int MAX_PRIORITY = 9;
    private static final int MAX_DELAY = 1000;
    private static final int MAX_LIMIT = 5;
    private static final int MAX_BASE = 50;
    private static final int MAX_RETRY_DELAY = 500;
    private static final int MAX_KEY = 31;
    private static final int NO_KEY = -1;
    private static final int NO_CALLBACK = -1;
    private static final int WORKERS = 6;
    private static final int MAX_LEASE = 100;
    private static final int MAX_TICK = 1000;
    private static final int MAX_UNFLUSHED = 16;
    private static final int COUNT_JOBS = 8;
    private static final int COUNT_UNFLUSHED = 9;
    private static final int COUNT_TIME = 10;
    private static final int COUNT_TOKENS = 11;

    private final boolean strict;
    private final Queue[] queues;
    private final Roster roster;
    private final Journal journal;
    private int time;
    private int waitingKey;

    public JobBoard(int mode) {
        strict = mode == STRICT_MODE;
        queues = new Queue[QUEUES];
        for (int q = 0; q < QUEUES; q++) {
            queues[q] = new Queue();
        }
        roster = new Roster();
        journal = new Journal();
        time = 0;
        waitingKey = NO_KEY;
    }

    public int queue(int q, int weight, int capacity, int refill) {
        if (!isQueue(q) || !within(weight, 0, MAX_WEIGHT)
                || !within(capacity, 0, MAX_CAPACITY) || !within(refill, 1, MAX_REFILL)) {
            return REFUSED;
        }
        queues[q].set(weight, capacity, refill, time);
        return OK;
    }

    public int key(int k) {
        if (k != NO_KEY && !within(k, 0, MAX_KEY)) {
            return REFUSED;
        }
        waitingKey = k;
        return OK;
    }

    public int submit(int q, int priority, int delay, int limit, int base) {
        if (!isQueue(q) || !within(priority, 0, MAX_PRIORITY) || !within(delay, 0, MAX_DELAY)
                || !within(limit, 0, MAX_LIMIT) || !within(base, 1, MAX_BASE)) {
            return REFUSED;
        }
        if (roster.hasLiveKey(waitingKey)) {
            return DUPLICATE;
        }
        Job job = roster.make(q, priority);
        if (job == null) {
            return FULL;
        }
        job.limit = limit;
        job.base = base;
        job.key = waitingKey;
        waitingKey = NO_KEY;
        if (delay == 0) {
            roster.enter(job, READY);
        } else {
            job.waitUntil(SCHEDULED, time + delay);
        }
        journal.write(roster);
        return job.number;
    }

    public int hold(int q, int priority) {
        if (!isQueue(q) || !within(priority, 0, MAX_PRIORITY)) {
            return REFUSED;
        }
        Job job = roster.make(q, priority);
        if (job == null) {
            return FULL;
        }
        journal.write(roster);
        return job.number;
    }

    public int join(int job, int callback) {
        Job member = roster.find(job);
        Job waiting = roster.find(callback);
        if (member == null || waiting == null || job == callback) {
            return REFUSED;
        }
        if (!member.isLive() || member.callback != NO_CALLBACK || waiting.state != HELD) {
            return REFUSED;
        }
        member.callback = callback;
        waiting.members++;
        journal.write(roster);
        return OK;
    }

    public int seal(int job) {
        Job held = roster.find(job);
        if (held == null || held.state != HELD || held.wasSealed) {
            return REFUSED;
        }
        held.wasSealed = true;
        roster.releaseIfComplete(held);
        journal.write(roster);
        return OK;
    }

    public int take(int w, int lease) {
        if (!isWorker(w) || !within(lease, 1, MAX_LEASE) || roster.reservedBy(w) != null) {
            return REFUSED;
        }
        int q = strict ? firstOpenQueue() : openQueueByCredit();
        Job job = q == NONE ? null : roster.nextInLine(q, null);
        if (job == null) {
            return NONE;
        }
        queues[q].spendToken();
        job.worker = w;
        job.waitUntil(RESERVED, time + lease);
        journal.write(roster);
        return job.number;
    }

    public int ack(int w) {
        Job job = roster.reservedBy(w);
        if (job == null) {
            return REFUSED;
        }
        job.state = DONE;
        Job waiting = roster.find(job.callback);
        if (waiting != null) {
            waiting.members--;
            roster.releaseIfComplete(waiting);
        }
        journal.write(roster);
        return job.number;
    }

    public int fail(int w) {
        Job job = roster.reservedBy(w);
        if (job == null) {
            return REFUSED;
        }
        roster.failReserved(job, time);
        journal.write(roster);
        return job.number;
    }

    public int tick(int n) {
        if (!within(n, 1, MAX_TICK)) {
            return REFUSED;
        }
        for (int q = 0; q < QUEUES; q++) {
            queues[q].refillBetween(time, time + n);
        }
        time += n;
        int changed = roster.settleDue(time);
        if (changed > 0) {
            journal.write(roster);
        }
        return changed;
    }

    public int revive(int job) {
        Job dead = roster.find(job);
        if (dead == null || dead.state != DEAD) {
            return REFUSED;
        }
        if (roster.hasLiveKey(dead.key)) {
            return DUPLICATE;
        }
        dead.failures = 0;
        roster.enter(dead, READY);
        journal.write(roster);
        return OK;
    }

    public int kill(int job) {
        Job victim = roster.find(job);
        if (victim == null || !victim.isLive() || victim.state == RESERVED) {
            return REFUSED;
        }
        roster.bury(victim);
        journal.write(roster);
        return OK;
    }

    public int flush() {
        return journal.flushAll(roster);
    }

    public int crash(int keep) {
        int lost = journal.restore(roster, keep);
        roster.releaseReserved();
        roster.settleDue(time);
        for (int q = 0; q < QUEUES; q++) {
            queues[q].restart();
        }
        waitingKey = NO_KEY;
        journal.flushAll(roster);
        return lost;
    }

    public int state(int job) {
        Job found = roster.find(job);
        return found == null ? REFUSED : found.state;
    }

    public int failures(int job) {
        Job found = roster.find(job);
        return found == null ? REFUSED : found.failures;
    }

    public int due(int job) {
        Job found = roster.find(job);
        if (found == null) {
            return REFUSED;
        }
        if (found.state == HELD) {
            return found.members;
        }
        return found.isTimed() ? found.due : NONE;
    }

    public int holding(int w) {
        if (!isWorker(w)) {
            return REFUSED;
        }
        return numberOrNone(roster.reservedBy(w));
    }

    public int line(int q, int k) {
        if (!isQueue(q)) {
            return REFUSED;
        }
        // No line is longer than there can be jobs, so the search has an end for any k.
        return within(k, 0, MAX_JOBS - 1) ? numberOrNone(roster.inLine(q, k)) : NONE;
    }

    public int count(int what) {
        if (within(what, SCHEDULED, GONE)) {
            return roster.countIn(what);
        }
        if (within(what, COUNT_TOKENS, COUNT_TOKENS + QUEUES - 1)) {
            return queues[what - COUNT_TOKENS].tokens;
        }
        switch (what) {
            case COUNT_JOBS:
                return roster.size;
            case COUNT_UNFLUSHED:
                return journal.unflushed;
            case COUNT_TIME:
                return time;
            default:
                return REFUSED;
        }
    }

    private static boolean within(int number, int least, int greatest) {
        return number >= least && number <= greatest;
    }

    private static boolean isQueue(int q) {
        return within(q, 0, QUEUES - 1);
    }

    private static boolean isWorker(int w) {
        return within(w, 0, WORKERS - 1);
    }

    private static int numberOrNone(Job job) {
        return job == null ? NONE : job.number;
    }

    private boolean isOpen(int q) {
        return queues[q].canGive() && roster.nextInLine(q, null) != null;
    }

    private int firstOpenQueue() {
        for (int q = 0; q < QUEUES; q++) {
            if (isOpen(q)) {
                return q;
            }
        }
        return NONE;
    }

    private int openQueueByCredit() {
        int chosen = NONE;
        int weights = 0;
        for (int q = 0; q < QUEUES; q++) {
            if (isOpen(q)) {
                queues[q].credit += queues[q].weight;
                weights += queues[q].weight;
                if (chosen == NONE || queues[q].credit > queues[chosen].credit) {
                    chosen = q;
                }
            }
        }
        if (chosen != NONE) {
            queues[chosen].credit -= weights;
        }
        return chosen;
    }

    /** A queue's share of the workers and its bucket; its jobs are in the roster. */
    private static final class Queue {
        int weight;
        int credit;
        int capacity;
        int tokens;
        int refill;
        int start;

        Queue() {
            weight = 1;
            // Without a capacity no token is ever added, but the divisor must not be 0.
            refill = 1;
        }

        void set(int newWeight, int newCapacity, int newRefill, int now) {
            weight = newWeight;
            capacity = newCapacity;
            refill = newRefill;
            start = now;
            restart();
        }

        void restart() {
            credit = 0;
            tokens = capacity;
        }

        boolean canGive() {
            return weight != 0 && (capacity == 0 || tokens > 0);
        }

        void spendToken() {
            if (capacity > 0) {
                tokens--;
            }
        }

        void refillBetween(int earlier, int later) {
            int passed = (later - start) / refill - (earlier - start) / refill;
            tokens = Math.min(capacity, tokens + passed);
        }
    }

    /** All that the journal keeps of one job. */
    private static final class Job {
        final int number;
        int queue;
        int priority;
        int limit;
        int base;
        int key;
        int failures;
        int callback;
        int members;
        boolean wasSealed;
        int state;
        int due;
        int worker;
        int since;

        Job(int number) {
            this.number = number;
        }

        // A crash gives numbers again, so nothing of an earlier job may stay.
        void begin(int newQueue, int newPriority) {
            queue = newQueue;
            priority = newPriority;
            limit = 0;
            base = 1;
            key = NO_KEY;
            failures = 0;
            callback = NO_CALLBACK;
            members = 0;
            wasSealed = false;
            state = HELD;
            due = 0;
            worker = 0;
            since = 0;
        }

        void copyFrom(Job other) {
            queue = other.queue;
            priority = other.priority;
            limit = other.limit;
            base = other.base;
            key = other.key;
            failures = other.failures;
            callback = other.callback;
            members = other.members;
            wasSealed = other.wasSealed;
            state = other.state;
            due = other.due;
            worker = other.worker;
            since = other.since;
        }

        boolean isLive() {
            return state != DONE && state != DEAD && state != GONE;
        }

        boolean isTimed() {
            return state == SCHEDULED || state == RETRYING || state == RESERVED;
        }

        void waitUntil(int newState, int newDue) {
            state = newState;
            due = newDue;
        }

        int retryDelay() {
            return Math.min(MAX_RETRY_DELAY, base << (failures - 1));
        }

        boolean standsBefore(Job other) {
            return priority > other.priority || priority == other.priority && since < other.since;
        }
    }

    /** The jobs, and every change of state that concerns more than one of them. */
    private static final class Roster {
        private final Job[] jobs;
        int size;
        private int stamps;

        Roster() {
            jobs = new Job[MAX_JOBS];
            for (int i = 0; i < MAX_JOBS; i++) {
                jobs[i] = new Job(i);
            }
        }

        void copyFrom(Roster other) {
            size = other.size;
            stamps = other.stamps;
            for (int i = 0; i < size; i++) {
                jobs[i].copyFrom(other.jobs[i]);
            }
        }

        Job find(int number) {
            return number >= 0 && number < size ? jobs[number] : null;
        }

        Job make(int q, int priority) {
            if (size >= MAX_JOBS) {
                return null;
            }
            Job job = jobs[size];
            size++;
            job.begin(q, priority);
            return job;
        }

        // One stamp serves the line and the dead alike: both ask who came into the state first.
        void enter(Job job, int state) {
            job.state = state;
            job.since = stamps;
            stamps++;
        }

        void releaseIfComplete(Job held) {
            if (held.state == HELD && held.wasSealed && held.members == 0) {
                enter(held, READY);
            }
        }

        void releaseReserved() {
            for (int i = 0; i < size; i++) {
                if (jobs[i].state == RESERVED) {
                    enter(jobs[i], READY);
                }
            }
        }

        void failReserved(Job job, int now) {
            job.failures++;
            if (job.failures > job.limit) {
                bury(job);
            } else {
                job.waitUntil(RETRYING, now + job.retryDelay());
            }
        }

        void bury(Job job) {
            Job oldest = oldestDead();
            if (oldest != null && countIn(DEAD) >= MAX_DEAD) {
                oldest.state = GONE;
            }
            enter(job, DEAD);
        }

        private Job oldestDead() {
            Job oldest = null;
            for (int i = 0; i < size; i++) {
                if (jobs[i].state == DEAD && (oldest == null || jobs[i].since < oldest.since)) {
                    oldest = jobs[i];
                }
            }
            return oldest;
        }

        // A job that is settled is not due again: every retry delay is at least 1.
        int settleDue(int now) {
            for (int settled = 0; settled < size; settled++) {
                Job job = nextDue(now);
                if (job == null) {
                    return settled;
                }
                if (job.state == RESERVED) {
                    failReserved(job, now);
                } else {
                    enter(job, READY);
                }
            }
            return size;
        }

        private Job nextDue(int now) {
            Job next = null;
            for (int i = 0; i < size; i++) {
                Job job = jobs[i];
                if (job.isTimed() && job.due <= now && (next == null || job.due < next.due)) {
                    next = job;
                }
            }
            return next;
        }

        boolean hasLiveKey(int key) {
            if (key == NO_KEY) {
                return false;
            }
            for (int i = 0; i < size; i++) {
                if (jobs[i].key == key && jobs[i].isLive()) {
                    return true;
                }
            }
            return false;
        }

        Job reservedBy(int w) {
            for (int i = 0; i < size; i++) {
                if (jobs[i].state == RESERVED && jobs[i].worker == w) {
                    return jobs[i];
                }
            }
            return null;
        }

        Job inLine(int q, int place) {
            Job job = nextInLine(q, null);
            for (int passed = 0; passed < place && job != null; passed++) {
                job = nextInLine(q, job);
            }
            return job;
        }

        // The line is found anew from the jobs, so that a crash has no second record of it to mend.
        Job nextInLine(int q, Job after) {
            Job next = null;
            for (int i = 0; i < size; i++) {
                Job job = jobs[i];
                if (job.state == READY && job.queue == q
                        && (after == null || after.standsBefore(job))
                        && (next == null || job.standsBefore(next))) {
                    next = job;
                }
            }
            return next;
        }

        int countIn(int state) {
            int found = 0;
            for (int i = 0; i < size; i++) {
                if (jobs[i].state == state) {
                    found++;
                }
            }
            return found;
        }
    }

    /**
     * Page 0 holds the jobs as they were flushed, page i as they were after the i-th record since.
     * Jobs change by records alone, so the newest page is always what the board shows.
     */
    private static final class Journal {
        private final Roster[] pages;
        int unflushed;

        Journal() {
            pages = new Roster[MAX_UNFLUSHED];
            for (int i = 0; i < MAX_UNFLUSHED; i++) {
                pages[i] = new Roster();
            }
        }

        void write(Roster roster) {
            if (unflushed + 1 >= MAX_UNFLUSHED) {
                flushAll(roster);
            } else {
                unflushed++;
                pages[unflushed].copyFrom(roster);
            }
        }

        int flushAll(Roster roster) {
            int flushed = unflushed;
            unflushed = 0;
            pages[0].copyFrom(roster);
            return flushed;
        }

        int restore(Roster roster, int keep) {
            int kept = Math.min(Math.max(keep, 0), unflushed);
            roster.copyFrom(pages[kept]);
            return unflushed - kept;
        }
    }
}
