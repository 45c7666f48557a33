/** Counts answers, prints those that are not as due, ends a test. */
final class Check {
    private final String test;
    private int asked;
    private int wrong;

    Check(String test) {
        this.test = test;
    }

    void same(String what, long got, long due) {
        asked++;
        if (got != due) {
            wrong++;
            if (wrong <= 20) {
                System.out.println(test + ": " + what + " answered " + got + ", due is " + due);
            }
        }
    }

    /** Ends the run with code 1 if an answer was wrong. */
    void end() {
        System.out.println(test + ": " + asked + " answers, " + wrong + " wrong");
        if (wrong != 0 || asked == 0) {
            System.exit(1);
        }
    }
}
