/** Planners that are ready to be asked, and what they say written as one text. */
final class Jobs {
    private Jobs() {}

    /** A planner with rolls of a width, and kinds given as width, demand, width, demand and so on. */
    static RollPlanner of(int width, int... kinds) {
        RollPlanner x = new RollPlanner();
        setUp(x, width, kinds);
        return x;
    }

    static void setUp(RollPlanner x, int width, int... kinds) {
        boolean taken = x.begin(width);
        for (int k = 0; k < kinds.length; k += 2) {
            taken &= x.kind(kinds[k], kinds[k + 1]) == k / 2;
        }
        if (!taken) {
            throw new IllegalStateException("the planner refused a job that it has to take");
        }
    }

    /** As "10: 7x2 5x3": rolls of width 10, 2 pieces of width 7 and 3 of width 5. */
    static String state(RollPlanner x) {
        StringBuilder text = new StringBuilder();
        text.append(x.of(0)).append(":");
        for (int k = 0; k < x.of(1); k++) {
            text.append(" ").append(x.ofKind(k, 0)).append("x").append(x.ofKind(k, 1));
        }
        return text.toString();
    }

    /** As "1,0,1 0,2,0": a pattern for each roll, with a count for each kind. */
    static String plan(RollPlanner x) {
        StringBuilder text = new StringBuilder();
        for (int i = 0; i < x.rolls(); i++) {
            text.append(i == 0 ? "" : " ");
            for (int k = 0; k < x.of(1); k++) {
                text.append(k == 0 ? "" : ",").append(x.cut(i, k));
            }
        }
        return text.toString();
    }

    static String floor(RollPlanner x) {
        return x.floorTop() + "/" + x.floorBottom();
    }
}
