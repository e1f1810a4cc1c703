/** Counts the answers of one test that are not as due, and ends the test with exit code 1 if there was one. */
final class Checks {
    private final String test;
    private int asked;
    private int wrong;

    Checks(String test) {
        this.test = test;
    }

    void due(String what, int got, int want) {
        asked++;
        if (got != want) {
            wrong++;
            System.out.println(test + ": " + what + " answered " + got + ", due is " + want);
        }
    }

    void isTrue(String what, boolean holds) {
        asked++;
        if (!holds) {
            wrong++;
            System.out.println(test + ": " + what + " does not hold");
        }
    }

    boolean allRight() {
        return wrong == 0;
    }

    /** The queue's whole line is just these jobs, in this order. */
    void line(String what, JobBoard board, int q, int... jobs) {
        for (int k = 0; k < jobs.length; k++) {
            due(what + ": line(" + q + ", " + k + ")", board.line(q, k), jobs[k]);
        }
        due(what + ": the end of line " + q, board.line(q, jobs.length), JobBoard.NONE);
    }

    void end() {
        System.out.println(test + ": " + (asked - wrong) + " of " + asked + " answers are as due");
        if (wrong != 0) {
            System.exit(1);
        }
    }
}
