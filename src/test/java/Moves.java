/** Short runs of calls that several tests need. */
final class Moves {
    private Moves() {
    }

    static int submit(JobBoard x, int q) {
        return x.submit(q, 0, 0, 0, 1);
    }

    static void submitMany(JobBoard x, int q, int jobs) {
        for (int i = 0; i < jobs; i++) {
            submit(x, q);
        }
    }

    /** Worker 0 takes and acks a job; answers it, or what take answered. */
    static int serve(JobBoard x) {
        int job = x.take(0, 100);
        x.ack(0);
        return job;
    }

    /** Serves until take answers no job, at the most that often; answers how often. */
    static int serveMany(JobBoard x, int most) {
        int served = 0;
        while (served < most && serve(x) >= 0) {
            served++;
        }
        return served;
    }

    static void holdAndKill(JobBoard x, int jobs) {
        for (int i = 0; i < jobs; i++) {
            x.kill(x.hold(3, 0));
        }
    }
}
