/** Compares answers with those that are due, prints the wrong ones and counts them. */
final class Checks {
    private int made = 0;
    private int wrong = 0;
    private String about = "";

    /** What the checks to come are about: it stands ahead of each wrong answer that is printed. */
    void about(String words) {
        about = words + ": ";
    }

    void same(String what, long got, long due) {
        made++;
        if (got != due) {
            wrong++;
            System.out.println(about + what + " answered " + got + ", due is " + due);
        }
    }

    void same(String what, String got, String due) {
        made++;
        if (!got.equals(due)) {
            wrong++;
            System.out.println(about + what + " answered " + got + ", due is " + due);
        }
    }

    void holds(String what, boolean got) {
        same(what, String.valueOf(got), "true");
    }

    void refused(String what, boolean got) {
        same(what, String.valueOf(got), "false");
    }

    /** To be called last in a test's main: an exit code of 1 tells that something was wrong. */
    void end(String test) {
        System.out.println(test + ": " + made + " answers looked at, " + wrong + " wrong");
        if (wrong != 0 || made == 0) {
            System.exit(1);
        }
    }
}
