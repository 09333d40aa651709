import java.util.List;

/** The sentences of promises 6 to 13: what can be asked about a job. */
final class QuestionsEdges {
    private static final int[][] JOBS = {
        {1},
        {60},
        {1, 1, 6},
        {60, 60, 1},
        {10, 7, 2, 5, 3},
        {10, 7, 2, 5, 0, 3, 4},
        {10, 7, 0, 5, 0, 3, 0, 1, 0},
        {9, 4, 2, 5, 1, 3, 6, 1, 3},
        {1, 1, 6, 1, 6, 1, 6, 1, 6},
        {60, 1, 6, 2, 6, 3, 6, 4, 6},
        {60, 60, 6, 59, 6, 58, 6, 57, 6}
    };

    private final Checks checks;
    private final Document document;

    QuestionsEdges(Checks checks, Document document) {
        this.checks = checks;
        this.document = document;
    }

    void run() {
        ofWidthAndKinds();
        ofRefuses();
        ofKindWidthAndDemand();
        ofKindRefusesMissingKinds();
        ofKindRefusesAnotherWhat();
        rollsFromNoneToAll();
        cutFromTheFirstToTheLast();
        cutRefuses();
        withAtLeast();
        withRefusesNoPattern();
        withRefusesMoreThanAskedFor();
        floorInLowestTerms();
        floorBottomAboveZero();
        priceIsTheGreatest();
        priceOfAnyPattern();
        priceRefuses();
        priceOfMissingKinds();
    }

    private void ofWidthAndKinds() {
        document.quote("Promise 6", "What = 0 the width of rolls, 1 how many kinds there are");
        checks.same("of(0), the narrowest", Jobs.of(1).of(0), 1);
        checks.same("of(0), the widest", Jobs.of(60).of(0), 60);
        RollPlanner x = Jobs.of(37);
        for (int kinds = 0; kinds <= 4; kinds++) {
            checks.same("of(0) with " + kinds + " kinds", x.of(0), 37);
            checks.same("of(1) with " + kinds + " kinds", x.of(1), kinds);
            x.kind(5, kinds);
        }
        checks.same("of(1) after a fifth kind", x.of(1), 4);
        x.drop();
        checks.same("of(1) after a drop", x.of(1), 3);
    }

    private void ofRefuses() {
        document.quote("Promise 6", "NONE for another what.");
        for (int[] job : JOBS) {
            RollPlanner x = Jobs.ofRow(job);
            for (int what : Numbers.off(0, 1)) {
                checks.same(Jobs.name(job) + ", of(" + what + ")", x.of(what), -1);
            }
        }
    }

    private void ofKindWidthAndDemand() {
        document.quote("Promise 7", "The width (what = 0) or the demand (1) of a kind");
        for (int[] job : JOBS) {
            RollPlanner x = Jobs.ofRow(job);
            for (int k = 0; k < x.of(1); k++) {
                checks.same("the width of kind " + k, x.ofKind(k, 0), job[1 + 2 * k]);
                checks.same("the demand of kind " + k, x.ofKind(k, 1), job[2 + 2 * k]);
            }
        }
    }

    private void ofKindRefusesMissingKinds() {
        document.quote("Promise 7", "NONE when there is none such");
        for (int[] job : JOBS) {
            RollPlanner x = Jobs.ofRow(job);
            for (int what = 0; what <= 1; what++) {
                for (int k : Numbers.off(0, x.of(1) - 1)) {
                    checks.same(Jobs.name(job) + ", ofKind(" + k + ", " + what + ")", x.ofKind(k, what), -1);
                }
            }
        }
        RollPlanner x = Jobs.of(10, 7, 2, 5, 3);
        x.drop();
        checks.same("the width of a kind that has gone", x.ofKind(1, 0), -1);
        checks.same("its demand", x.ofKind(1, 1), -1);
        x.begin(10);
        checks.same("the width of kind 0 after begin", x.ofKind(0, 0), -1);
        checks.same("its demand", x.ofKind(0, 1), -1);
    }

    private void ofKindRefusesAnotherWhat() {
        document.quote("Promise 7", "or for another what.");
        RollPlanner x = Jobs.of(9, 4, 2, 5, 1, 3, 6, 1, 3);
        for (int what : Numbers.off(0, 1)) {
            for (int k = 0; k < 4; k++) {
                checks.same("ofKind(" + k + ", " + what + ")", x.ofKind(k, what), -1);
            }
            checks.same("ofKind(4, " + what + ")", x.ofKind(4, what), -1);
        }
    }

    private void rollsFromNoneToAll() {
        document.quote("Promise 8", "How many patterns the best plan has.");
        checks.same("no kinds", Jobs.of(60).rolls(), 0);
        checks.same("four kinds, nothing asked for", Jobs.of(60, 1, 0, 2, 0, 59, 0, 60, 0).rolls(), 0);
        checks.same("one piece of 24", Jobs.of(60, 60, 0, 59, 0, 58, 0, 57, 1).rolls(), 1);
        checks.same("23 of 24", Jobs.of(60, 60, 6, 59, 6, 58, 6, 57, 5).rolls(), 23);
        checks.same("all 24, each on its own roll", Jobs.of(60, 60, 6, 59, 6, 58, 6, 57, 6).rolls(), 24);
        checks.same("all 24 on the narrowest rolls", Jobs.of(1, 1, 6, 1, 6, 1, 6, 1, 6).rolls(), 24);
        checks.same("all 24 on one roll, just full", Jobs.of(60, 1, 6, 2, 6, 3, 6, 4, 6).rolls(), 1);
        checks.same("a roll too narrow by one", Jobs.of(59, 1, 6, 2, 6, 3, 6, 4, 6).rolls(), 2);
        checks.same("halves: two on each", Jobs.of(60, 30, 6, 30, 6, 30, 6, 30, 6).rolls(), 12);
        checks.same("just above halves: one on each", Jobs.of(60, 31, 6, 31, 6, 31, 6, 31, 6).rolls(), 24);
        // To put the widest that still fits takes three: 5+4 3+3+3 3.
        checks.same("5+3+3 4+3+3", Jobs.of(11, 5, 1, 4, 1, 3, 4).rolls(), 2);
    }

    private void cutFromTheFirstToTheLast() {
        document.quote("Promise 9", "How many pieces of a kind the i-th (from 0) pattern of the best plan has");
        RollPlanner x = Jobs.of(10, 7, 2, 5, 3, 3, 4);
        int[][] plan = {{1, 0, 1}, {1, 0, 1}, {0, 2, 0}, {0, 1, 1}, {0, 0, 1}};
        for (int i = 0; i < 5; i++) {
            for (int k = 0; k < 3; k++) {
                checks.same("cut(" + i + ", " + k + ")", x.cut(i, k), plan[i][k]);
            }
        }
        RollPlanner most = Jobs.of(60, 60, 6, 59, 6, 58, 6, 57, 6);
        for (int i = 0; i < 24; i++) {
            for (int k = 0; k < 4; k++) {
                checks.same("cut(" + i + ", " + k + ") of 24", most.cut(i, k), i / 6 == k ? 1 : 0);
            }
        }
        checks.same("as many as can be on one", Jobs.plan(Jobs.of(60, 1, 6, 2, 6, 3, 6, 4, 6)), "6,6,6,6");
        checks.same("0 of a kind that nothing is asked of", Jobs.plan(Jobs.of(10, 3, 0, 5, 3)), "0,2 0,1");
    }

    private void cutRefuses() {
        document.quote("Promise 9", "NONE when there are none such.");
        for (int[] job : JOBS) {
            RollPlanner x = Jobs.ofRow(job);
            int rolls = x.rolls();
            int kinds = x.of(1);
            for (int i = -2; i <= rolls + 2; i++) {
                for (int k = -2; k <= 5; k++) {
                    boolean is = i >= 0 && i < rolls && k >= 0 && k < kinds;
                    String call = Jobs.name(job) + ", cut(" + i + ", " + k + ") is there";
                    checks.same(call, x.cut(i, k) == -1 ? 0 : 1, is ? 1 : 0);
                }
            }
            farCuts(job, rolls, kinds);
        }
        RollPlanner fewer = Jobs.of(10, 10, 6);
        checks.same("the last of six", fewer.cut(5, 0), 1);
        fewer.ask(0, 5);
        checks.same("the sixth of five", fewer.cut(5, 0), -1);
        checks.same("the last of five", fewer.cut(4, 0), 1);
        fewer.ask(0, 0);
        checks.same("the first of none", fewer.cut(0, 0), -1);
    }

    private void farCuts(int[] job, int rolls, int kinds) {
        RollPlanner x = Jobs.ofRow(job);
        for (int i : Numbers.off(0, rolls - 1)) {
            checks.same(Jobs.name(job) + ", cut(" + i + ", 0)", x.cut(i, 0), -1);
        }
        for (int k : Numbers.off(0, kinds - 1)) {
            checks.same(Jobs.name(job) + ", cut(0, " + k + ")", x.cut(0, k), -1);
        }
    }

    private void withAtLeast() {
        document.quote("Promise 10", "How many rolls a plan would have at least, if a pattern were one of it");
        for (int[] job : JOBS) {
            RollPlanner x = Jobs.ofRow(job);
            checks.same(Jobs.name(job) + ", the empty pattern", x.with(0, 0, 0, 0), x.rolls() + 1);
        }
        checks.same("all that is asked for", Jobs.of(60, 1, 6, 2, 6, 3, 6, 4, 6).with(6, 6, 6, 6), 1);
        checks.same("all but one piece", Jobs.of(60, 1, 6, 2, 6, 3, 6, 4, 6).with(6, 6, 6, 5), 2);
        checks.same("one of 24", Jobs.of(60, 60, 6, 59, 6, 58, 6, 57, 6).with(0, 0, 0, 1), 24);
        checks.same("none of 24", Jobs.of(60, 60, 6, 59, 6, 58, 6, 57, 6).with(0, 0, 0, 0), 25);
        checks.same("the only piece", Jobs.of(60, 60, 0, 59, 1).with(0, 1, 0, 0), 1);
        RollPlanner x = Jobs.of(10, 4, 2, 6, 2);
        checks.same("a pattern of the best plan", x.with(1, 1, 0, 0), 2);
        checks.same("a pattern that costs a roll more", x.with(2, 0, 0, 0), 3);
        RollPlanner y = Jobs.of(10, 4, 2, 6, 1);
        checks.same("not in the best plan, but in one with as many", y.with(1, 0, 0, 0), 2);
        checks.same("one roll more than the best plan's ten", Jobs.of(11, 4, 5, 5, 5, 6, 5, 7, 5).with(1, 1, 0, 0), 11);
    }

    private void withRefusesNoPattern() {
        document.quote("Promise 10", "NONE when that is no pattern");
        for (int[] job : JOBS) {
            everyPattern(job);
        }
        RollPlanner x = Jobs.of(60, 4, 6, 4, 6, 4, 6, 4, 6);
        for (int number : Numbers.off(0, 6)) {
            checks.same("a0 = " + number, x.with(number, 0, 0, 0), -1);
            checks.same("a1 = " + number, x.with(0, number, 0, 0), -1);
            checks.same("a2 = " + number, x.with(0, 0, number, 0), -1);
            checks.same("a3 = " + number, x.with(0, 0, 0, number), -1);
        }
        checks.same("a width that wraps around to 0", x.with(1 << 30, 0, 0, 0), -1);
        checks.same("widths that wrap around together", x.with(1 << 28, 1 << 28, 1 << 28, 1 << 28), -1);
        checks.same("a number below 0 that makes room", x.with(6, 6, 6, -3), -1);
    }

    /** All numbers from -1 to 7, at each place. An object is good for 512 calls, so a0 and a1 get a new one. */
    private void everyPattern(int[] job) {
        int[] a = new int[4];
        for (a[0] = -1; a[0] <= 7; a[0]++) {
            for (a[1] = -1; a[1] <= 7; a[1]++) {
                RollPlanner x = Jobs.ofRow(job);
                for (a[2] = -1; a[2] <= 7; a[2]++) {
                    for (a[3] = -1; a[3] <= 7; a[3]++) {
                        boolean taken = x.with(a[0], a[1], a[2], a[3]) != -1;
                        String call = "with(" + a[0] + ", " + a[1] + ", " + a[2] + ", " + a[3] + ") is taken";
                        checks.same(call, taken ? 1 : 0, isAllowed(job, a) ? 1 : 0);
                    }
                }
            }
        }
    }

    private static boolean isAllowed(int[] job, int[] a) {
        int room = job[0];
        for (int k = 0; k < 4; k++) {
            boolean isThere = 1 + 2 * k < job.length;
            int most = isThere ? job[2 + 2 * k] : 0;
            if (a[k] < 0 || a[k] > most) {
                return false;
            }
            room -= isThere ? a[k] * job[1 + 2 * k] : 0;
        }
        return room >= 0;
    }

    private void withRefusesMoreThanAskedFor() {
        document.quote("Promise 10", "or has more of a kind than is asked for.");
        for (int place = 0; place < 4; place++) {
            RollPlanner x = Jobs.of(60, 1, 6, 1, 6, 1, 6, 1, 6);
            for (int demand = 0; demand <= 6; demand++) {
                x.ask(place, demand);
                int[] a = new int[4];
                a[place] = demand;
                String of = " as are asked for of kind " + place + ", " + demand;
                checks.same("as many" + of, x.with(a[0], a[1], a[2], a[3]), 2);
                a[place] = demand + 1;
                checks.same("one more" + of, x.with(a[0], a[1], a[2], a[3]), -1);
            }
        }
        checks.same("room for seven, asked for six", Jobs.of(7, 1, 6).with(7, 0, 0, 0), -1);
        checks.same("room for six, asked for six", Jobs.of(6, 1, 6).with(6, 0, 0, 0), 1);
    }

    private void floorInLowestTerms() {
        document.quote("Promise 11", "The numerator of the floor, in lowest terms.");
        checks.same("0 of sixty", Jobs.floor(Jobs.of(60, 1, 0)), "0/1");
        checks.same("1 of sixty", Jobs.floor(Jobs.of(60, 1, 1)), "1/60");
        checks.same("2 of sixty", Jobs.floor(Jobs.of(60, 1, 2)), "1/30");
        checks.same("5 of sixty", Jobs.floor(Jobs.of(60, 1, 5)), "1/12");
        checks.same("6 of sixty", Jobs.floor(Jobs.of(60, 1, 6)), "1/10");
        checks.same("24 of sixty", Jobs.floor(Jobs.of(60, 1, 6, 1, 6, 1, 6, 1, 6)), "2/5");
        checks.same("23 of sixty", Jobs.floor(Jobs.of(60, 1, 6, 1, 6, 1, 6, 1, 5)), "23/60");
        checks.same("a whole number", Jobs.floor(Jobs.of(60, 20, 6, 30, 4)), "4/1");
        checks.same("as many as can be", Jobs.floor(Jobs.of(60, 60, 6, 59, 6, 58, 6, 57, 6)), "24/1");
        for (int seed = 0; seed < 200; seed++) {
            int width = 7 + seed % 54;
            RollPlanner x = Jobs.of(width, 1 + seed % 7, seed % 7, 1 + seed % 5, seed % 6, 1 + seed % 3, seed % 5, width / 2, 3);
            checks.same(Jobs.state(x) + ", divisor of both", divisor(x.floorTop(), x.floorBottom()), 1);
        }
    }

    private static long divisor(long a, long b) {
        return b == 0 ? a : divisor(b, a % b);
    }

    private void floorBottomAboveZero() {
        document.quote("Promise 12", "Its denominator, above 0.");
        checks.same("no kinds", Jobs.of(60).floorBottom(), 1);
        checks.same("a new object", new RollPlanner().floorBottom(), 1);
        checks.same("nothing asked for", Jobs.of(60, 7, 0, 13, 0, 17, 0, 60, 0).floorBottom(), 1);
        checks.same("a whole number", Jobs.of(10, 5, 6).floorBottom(), 1);
        checks.same("a fraction below 1", Jobs.of(60, 1, 1).floorBottom(), 60);
        checks.same("a fraction above 1", Jobs.of(10, 7, 2, 5, 3, 3, 4).floorBottom(), 6);
        RollPlanner x = Jobs.of(60, 13, 6, 17, 6, 22, 6, 29, 6);
        checks.same("asked before the numerator", x.floorBottom(), 5);
        checks.same("the numerator behind it", x.floorTop(), 42);
        x.ask(3, 0);
        checks.holds("after an ask", x.floorBottom() > 0);
        checks.same("after an ask, its floor", Jobs.floor(x), Jobs.floor(Jobs.of(60, 13, 6, 17, 6, 22, 6, 29, 0)));
    }

    private void priceIsTheGreatest() {
        document.quote("Promise 13", "The greatest that the sum of p0 .. p3, each times how many pieces of its kind a pattern has, can be");
        for (int width = 1; width <= 60; width++) {
            for (int piece = 1; piece <= width; piece++) {
                int most = width / piece;
                checks.same(piece + " goes into " + width, Jobs.of(width, piece, 1).price(1, 0, 0, 0), most);
            }
        }
        RollPlanner x = Jobs.of(60, 1, 0, 1, 0, 1, 0, 1, 0);
        checks.same("the least", x.price(0, 0, 0, 0), 0);
        checks.same("the greatest of all", x.price(1000000, 1000000, 1000000, 1000000), 60000000);
        checks.same("the greatest by the last kind", x.price(999999, 0, 999999, 1000000), 60000000);
        RollPlanner y = Jobs.of(10, 7, 2, 5, 3, 3, 4);
        checks.same("7 + 3", y.price(10, 4, 3, 0), 13);
        checks.same("5 + 5", y.price(7, 6, 4, 0), 12);
        checks.same("3 + 3 + 3, one left over", y.price(1, 1, 1, 0), 3);
    }

    private void priceOfAnyPattern() {
        document.quote("Promise 13", "(for any pattern)");
        for (int demand = 0; demand <= 6; demand++) {
            checks.same("ten go in, asked for " + demand, Jobs.of(10, 1, demand).price(3, 0, 0, 0), 30);
        }
        checks.same("of a kind that nothing is asked of", Jobs.of(10, 7, 6, 5, 0).price(1, 1, 0, 0), 2);
        checks.same("the empty pattern", Jobs.of(60).price(1, 1, 1, 1), 0);
    }

    private void priceRefuses() {
        document.quote("Promise 13", "NONE when one of them is not 0 .. 1000000");
        List<Integer> off = Numbers.off(0, 1000000);
        for (int[] job : JOBS) {
            RollPlanner x = Jobs.ofRow(job);
            for (int place = 0; place < 4; place++) {
                int[] p = {1, 1, 1, 1};
                for (int price : off) {
                    p[place] = price;
                    checks.same(Jobs.name(job) + ", p" + place + " = " + price, x.price(p[0], p[1], p[2], p[3]), -1);
                }
                p[place] = 0;
                checks.holds("p" + place + " = 0", x.price(p[0], p[1], p[2], p[3]) >= 0);
                p[place] = 1000000;
                boolean isThere = place < x.of(1);
                boolean isHigh = x.price(p[0], p[1], p[2], p[3]) >= 1000000;
                checks.same(Jobs.name(job) + ", p" + place + " = 1000000", isHigh ? 1 : 0, isThere ? 1 : 0);
            }
        }
    }

    private void priceOfMissingKinds() {
        document.quote("Promise 13", "(those of kinds that there are not are of no matter, but to that).");
        int[] any = {0, 1, 999999, 1000000};
        RollPlanner x = Jobs.of(10);
        for (int kinds = 0; kinds <= 4; kinds++) {
            for (int number : any) {
                int[] p = {number, number, number, number};
                for (int k = 0; k < kinds; k++) {
                    p[k] = 7;
                }
                checks.same(kinds + " kinds, the others " + number, x.price(p[0], p[1], p[2], p[3]), kinds == 0 ? 0 : 14);
            }
            for (int place = kinds; place < 4; place++) {
                for (int price : Numbers.beside(0, 1000000)) {
                    int[] p = new int[4];
                    p[place] = price;
                    checks.same(kinds + " kinds, p" + place + " = " + price, x.price(p[0], p[1], p[2], p[3]), -1);
                }
            }
            x.kind(5, 1);
        }
        x.drop();
        checks.same("a kind that has gone", x.price(7, 7, 7, 1000000), 14);
        checks.same("a kind that has gone, too dear", x.price(7, 7, 7, 1000001), -1);
    }
}
