import java.util.ArrayList;
import java.util.List;

/**
 * "A refused call (an answer below 0) changes nothing." Of two boards with the same past one is asked a
 * call that must be refused; whatever calls follow, the two must answer alike.
 */
final class Twins {
    interface Call {
        int on(JobBoard x);
    }

    private interface Probe {
        void ask(JobBoard x, List<Integer> answers);
    }

    private static final int MOST_UNFLUSHED = 15;
    private static final int MOST_DEAD = 8;
    private static final int ROUNDS = 4;

    private final Checks checks;
    private final List<Probe> probes = new ArrayList<>();

    Twins(Checks checks) {
        this.checks = checks;
        probes.add((x, answers) -> { });
        probes.add(Twins::useTheWaitingKey);
        probes.add(Twins::takeAndAck);
        probes.add(Twins::takeAndFail);
        probes.add(Twins::openAllAndTake);
        probes.add(Twins::letTimePass);
        probes.add(Twins::failAll);
        probes.add(Twins::reviveAll);
        probes.add(Twins::sealAndJoinAll);
        probes.add((x, answers) -> answers.add(x.flush()));
        for (int kills = 1; kills <= MOST_DEAD; kills++) {
            int most = kills;
            probes.add((x, answers) -> kill(x, most));
        }
        for (int keep = 0; keep <= MOST_UNFLUSHED; keep++) {
            int kept = keep;
            probes.add((x, answers) -> answers.add(x.crash(kept)));
        }
    }

    /** The call answers want, which is below 0, and no later call shows that it was asked. */
    void refused(String what, Past past, int want, Call call) {
        String told = what + " on " + past.name();
        checks.isTrue(told + ": the answer due is below 0", want < 0);
        checks.due(told, call.on(past.board()), want);
        for (int i = 0; i < probes.size(); i++) {
            JobBoard asked = past.board();
            call.on(asked);
            checks.isTrue(told + ": nothing has changed, by probe " + i,
                    answers(asked, probes.get(i)).equals(answers(past.board(), probes.get(i))));
        }
    }

    private static List<Integer> answers(JobBoard x, Probe probe) {
        List<Integer> answers = new ArrayList<>();
        probe.ask(x, answers);
        readAll(x, answers);
        return answers;
    }

    static void readAll(JobBoard x, List<Integer> answers) {
        for (int what = 0; what <= 14; what++) {
            answers.add(x.count(what));
        }
        int jobs = x.count(8);
        for (int job = 0; job < jobs; job++) {
            answers.add(x.state(job));
            answers.add(x.failures(job));
            answers.add(x.due(job));
        }
        for (int w = 0; w <= 5; w++) {
            answers.add(x.holding(w));
        }
        for (int q = 0; q <= 3; q++) {
            readLine(x, q, answers);
        }
    }

    private static void readLine(JobBoard x, int q, List<Integer> answers) {
        int k = 0;
        int job = x.line(q, k);
        while (job >= 0) {
            answers.add(job);
            k++;
            job = x.line(q, k);
        }
        answers.add(job);
    }

    /** After the submit every key is tried, so that the one it used is found out. */
    private static void useTheWaitingKey(JobBoard x, List<Integer> answers) {
        answers.add(x.submit(0, 0, 0, 0, 1));
        for (int k = 0; k <= 31; k++) {
            answers.add(x.key(k));
            answers.add(x.submit(0, 0, 0, 0, 1));
        }
    }

    /** The order of the takes shows the credits, and the acks the callbacks. */
    private static void takeAndAck(JobBoard x, List<Integer> answers) {
        for (int round = 0; round < ROUNDS; round++) {
            takeAll(x, answers);
            for (int w = 0; w <= 5; w++) {
                answers.add(x.ack(w));
            }
        }
    }

    /** The failures show the limits and the bases. */
    private static void takeAndFail(JobBoard x, List<Integer> answers) {
        for (int round = 0; round < ROUNDS; round++) {
            takeAll(x, answers);
            for (int w = 0; w <= 5; w++) {
                answers.add(x.fail(w));
            }
        }
    }

    private static void takeAll(JobBoard x, List<Integer> answers) {
        for (int w = 0; w <= 5; w++) {
            answers.add(x.take(w, 10 + w));
        }
    }

    /** A queue that was empty or without tokens shows its credit when it is OPEN again. */
    private static void openAllAndTake(JobBoard x, List<Integer> answers) {
        for (int i = 0; i < 16; i++) {
            answers.add(x.submit(i % 4, 9, 0, 0, 1));
        }
        for (int n = 0; n < ROUNDS; n++) {
            answers.add(x.tick(100));
            takeAll(x, answers);
        }
    }

    private static void letTimePass(JobBoard x, List<Integer> answers) {
        int[] ticks = {1, 1, 1, 2, 5, 10, 10, 20, 50};
        for (int n : ticks) {
            answers.add(x.take(4, 1));
            answers.add(x.tick(n));
            for (int q = 0; q <= 3; q++) {
                answers.add(x.count(11 + q));
            }
        }
    }

    private static void failAll(JobBoard x, List<Integer> answers) {
        for (int w = 0; w <= 5; w++) {
            answers.add(x.fail(w));
        }
        answers.add(x.tick(500));
    }

    /** Who is GONE after so many kills shows who became DEAD first. */
    private static void kill(JobBoard x, int most) {
        int killed = 0;
        int jobs = x.count(8);
        for (int job = 0; job < jobs && killed < most; job++) {
            if (x.kill(job) == JobBoard.OK) {
                killed++;
            }
        }
    }

    /** The submit shows the waiting key of a full board, if a revived job has it. */
    private static void reviveAll(JobBoard x, List<Integer> answers) {
        int jobs = x.count(8);
        for (int job = 0; job < jobs; job++) {
            answers.add(x.revive(job));
        }
        answers.add(x.submit(0, 0, 0, 0, 1));
    }

    private static void sealAndJoinAll(JobBoard x, List<Integer> answers) {
        int callback = Past.jobIn(x, JobBoard.HELD);
        int jobs = x.count(8);
        for (int job = 0; job < jobs; job++) {
            answers.add(x.join(job, callback));
            answers.add(x.seal(job));
        }
    }
}
