/** Counts answers and tells the wrong ones; every test program ends with finish(). */
final class Check {
    private static int right = 0;
    private static int wrong = 0;
    private static String about = "";

    private Check() {
    }

    /** What the following checks are about; it is told with each wrong answer. */
    static void about(String what) {
        about = what;
    }

    static void same(String call, long got, long due) {
        count(got == due, call + " answered " + got + ", due is " + due);
    }

    static void same(String call, double got, double due) {
        count(Double.compare(got, due) == 0, call + " answered " + got + ", due is " + due);
    }

    static void isTrue(String what, boolean holds) {
        count(holds, what + " does not hold");
    }

    /** The whole profile: either 24 values, or fewer that repeat. */
    static void profile(String what, RoundnessInstrument x, long... due) {
        for (int k = 0; k < 24; k++) {
            same(what + ": profile(" + k + ")", x.profile(k), due[k % due.length]);
        }
    }

    static void finish() {
        System.out.println(right + " answers as due, " + wrong + " not");
        if (wrong > 0 || right == 0) {
            System.exit(1);
        }
    }

    private static void count(boolean holds, String complaint) {
        if (holds) {
            right++;
        } else {
            wrong++;
            System.out.println("  wrong: " + complaint + (about.isEmpty() ? "" : " -- " + about));
        }
    }
}
