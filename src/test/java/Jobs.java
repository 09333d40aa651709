import java.util.ArrayList;
import java.util.Arrays;
import java.util.List;

/** Planners that are ready to be asked, and what they say written as one text. */
final class Jobs {
    private static final int[][] PATTERNS = {
        {0, 0, 0, 0}, {1, 0, 0, 0}, {0, 1, 0, 0}, {0, 0, 1, 0}, {0, 0, 0, 1}, {1, 1, 1, 1}, {2, 0, 0, 0}
    };

    private Jobs() {}

    /** A planner with rolls of a width, and kinds given as width, demand, width, demand and so on. */
    static RollPlanner of(int width, int... kinds) {
        RollPlanner x = new RollPlanner();
        setUp(x, width, kinds);
        return x;
    }

    /** The same in one row: the rolls' width, then the kinds. */
    static RollPlanner ofRow(int... job) {
        return of(job[0], Arrays.copyOfRange(job, 1, job.length));
    }

    /** Such a row as state() writes it, but without a call: an object is good for 512 only. */
    static String name(int... job) {
        StringBuilder text = new StringBuilder();
        text.append(job[0]).append(":");
        for (int k = 1; k < job.length; k += 2) {
            text.append(" ").append(job[k]).append("x").append(job[k + 1]);
        }
        return text.toString();
    }

    static void setUp(RollPlanner x, int width, int... kinds) {
        boolean taken = x.begin(width);
        for (int k = 0; k < kinds.length; k += 2) {
            taken &= x.kind(kinds[k], kinds[k + 1]) == k / 2;
        }
        if (!taken) {
            throw new IllegalStateException("the planner refused a job that it has to take");
        }
    }

    /** As "10: 7x2 5x3": rolls of width 10, 2 pieces of width 7 and 3 of width 5. */
    static String state(RollPlanner x) {
        StringBuilder text = new StringBuilder();
        text.append(x.of(0)).append(":");
        for (int k = 0; k < x.of(1); k++) {
            text.append(" ").append(x.ofKind(k, 0)).append("x").append(x.ofKind(k, 1));
        }
        return text.toString();
    }

    /** As "1,0,1 0,2,0": a pattern for each roll, with a count for each kind. */
    static String plan(RollPlanner x) {
        StringBuilder text = new StringBuilder();
        for (int i = 0; i < x.rolls(); i++) {
            text.append(i == 0 ? "" : " ");
            for (int k = 0; k < x.of(1); k++) {
                text.append(k == 0 ? "" : ",").append(x.cut(i, k));
            }
        }
        return text.toString();
    }

    static String floor(RollPlanner x) {
        return x.floorTop() + "/" + x.floorBottom();
    }

    /** Every question with what it answers, as "cut(0, 1) = 2", in fewer than 200 calls. */
    static List<String> everything(RollPlanner x) {
        List<String> found = new ArrayList<>();
        for (int what = -1; what <= 2; what++) {
            found.add("of(" + what + ") = " + x.of(what));
            for (int k = -1; k <= 4; k++) {
                found.add("ofKind(" + k + ", " + what + ") = " + x.ofKind(k, what));
            }
        }
        int rolls = x.rolls();
        found.add("rolls() = " + rolls);
        for (int i = -1; i <= rolls; i++) {
            for (int k = -1; k <= 4; k++) {
                found.add("cut(" + i + ", " + k + ") = " + x.cut(i, k));
            }
        }
        found.add("the floor = " + floor(x));
        for (int[] a : PATTERNS) {
            found.add("with" + Arrays.toString(a) + " = " + x.with(a[0], a[1], a[2], a[3]));
        }
        found.add("price(9, 7, 5, 3) = " + x.price(9, 7, 5, 3));
        found.add("price(3, 5, 7, 9) = " + x.price(3, 5, 7, 9));
        return found;
    }
}
