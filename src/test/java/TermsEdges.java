/** The sentences of "Terms", but for the one on refused calls. */
final class TermsEdges {
    private final Checks checks;
    private final Document document;

    TermsEdges(Checks checks, Document document) {
        this.checks = checks;
        this.document = document;
    }

    void run() {
        rollWidth();
        fourKinds();
        widthOfAKind();
        demandOfAKind();
        patternFromZero();
        patternWithinTheRoll();
        patternOfMissingKinds();
        planHasJustTheDemand();
        leftOver();
        orderOfPatterns();
        orderInAPlan();
        orderOfPlans();
        fewestComesFirst();
        mixtureMeetsTheDemand();
        costOfAMixture();
        floorIsTheLeast();
    }

    private void rollWidth() {
        document.quote("Terms", "A ROLL has a width W, 1 .. 60 (1 at first).");
        RollPlanner x = new RollPlanner();
        checks.same("of(0) at first", x.of(0), 1);
        for (int width = 1; width <= 60; width++) {
            checks.holds("begin(" + width + ")", x.begin(width));
            checks.same("of(0) after it", x.of(0), width);
        }
        for (int width : Numbers.off(1, 60)) {
            checks.refused("begin(" + width + ")", x.begin(width));
            checks.same("of(0) after it", x.of(0), 60);
        }
    }

    private void fourKinds() {
        document.quote("Terms", "There are up to four KINDS of pieces, 0 .. 3 (none at first)");
        RollPlanner x = new RollPlanner();
        checks.same("of(1) at first", x.of(1), 0);
        for (int number = 0; number < 4; number++) {
            checks.same("a kind behind " + number, x.kind(1, 1), number);
            checks.same("of(1) after it", x.of(1), number + 1);
        }
        checks.same("a fifth kind", x.kind(1, 1), -1);
        checks.same("of(1) after it", x.of(1), 4);
        checks.same("the width of kind 3", x.ofKind(3, 0), 1);
        checks.same("the width of kind 4", x.ofKind(4, 0), -1);
        checks.same("the width of kind 0", x.ofKind(0, 0), 1);
        checks.same("the width of kind -1", x.ofKind(-1, 0), -1);
    }

    private void widthOfAKind() {
        document.quote("Terms", "each of a width 1 .. W");
        for (int width = 1; width <= 60; width++) {
            RollPlanner x = Jobs.of(width);
            String of = " on rolls of " + width;
            checks.same("width 0" + of, x.kind(0, 1), -1);
            checks.same("a width of one more" + of, x.kind(width + 1, 1), -1);
            checks.same("width 1" + of, x.kind(1, 1), 0);
            checks.same("the whole width" + of, x.kind(width, 1), 1);
            checks.same("both" + of, Jobs.state(x), width + ": 1x1 " + width + "x1");
        }
    }

    private void demandOfAKind() {
        document.quote("Terms", "and a DEMAND, 0 .. 6");
        for (int demand = 0; demand <= 6; demand++) {
            RollPlanner x = Jobs.of(5);
            checks.same("a kind with a demand of " + demand, x.kind(5, demand), 0);
            checks.same("its demand", x.ofKind(0, 1), demand);
            checks.same("the rolls for it", x.rolls(), demand);
            checks.holds("ask(0, " + (6 - demand) + ")", x.ask(0, 6 - demand));
            checks.same("its demand then", x.ofKind(0, 1), 6 - demand);
        }
        for (int demand : Numbers.beside(0, 6)) {
            RollPlanner x = Jobs.of(5, 5, 3);
            checks.same("a kind with a demand of " + demand, x.kind(5, demand), -1);
            checks.refused("ask(0, " + demand + ")", x.ask(0, demand));
            checks.same("all as it was", Jobs.state(x), "5: 5x3");
        }
    }

    private void patternFromZero() {
        document.quote("Terms", "A PATTERN are four numbers a0 .. a3 from 0 on, how many pieces of each kind are cut from one roll");
        RollPlanner x = Jobs.of(10, 2, 2, 2, 2, 2, 2, 2, 2);
        checks.same("four times 0", x.with(0, 0, 0, 0), 3);
        for (int place = 0; place < 4; place++) {
            int[] a = {1, 1, 1, 1};
            a[place] = 0;
            checks.same("0 at place " + place, with(x, a), 2);
            a[place] = -1;
            checks.same("-1 at place " + place, with(x, a), -1);
        }
        checks.same("four times -1", x.with(-1, -1, -1, -1), -1);
    }

    private void patternWithinTheRoll() {
        document.quote("Terms", "their widths together are W at most");
        for (int width = 3; width <= 60; width++) {
            String of = " on rolls of " + width;
            RollPlanner full = Jobs.of(width, 1, 1, width - 1, 1);
            checks.same("with of just W" + of, full.with(1, 1, 0, 0), 1);
            checks.same("rolls of just W" + of, full.rolls(), 1);
            checks.same("price of just W" + of, full.price(1, 1000, 0, 0), 1001);
            RollPlanner over = Jobs.of(width, 2, 1, width - 1, 1);
            checks.same("with of W + 1" + of, over.with(1, 1, 0, 0), -1);
            checks.same("rolls of W + 1" + of, over.rolls(), 2);
            checks.same("price of W + 1" + of, over.price(1, 1000, 0, 0), 1000);
        }
        checks.same("floor of just W", Jobs.floor(Jobs.of(10, 6, 1, 4, 1)), "1/1");
        checks.same("floor of W + 1", Jobs.floor(Jobs.of(10, 6, 1, 5, 1)), "3/2");
        for (int place = 0; place < 4; place++) {
            int[] kinds = {3, 1, 3, 1, 3, 1, 3, 1};
            int[] a = {1, 1, 1, 1};
            kinds[2 * place] = 1;
            kinds[2 * place + 1] = 2;
            checks.same("just W, one of kind " + place, with(Jobs.of(10, kinds), a), 2);
            a[place] = 2;
            checks.same("W + 1, by two of kind " + place, with(Jobs.of(10, kinds), a), -1);
            a[place] = 1;
            kinds[2 * place] = 2;
            checks.same("W + 1, by the width of kind " + place, with(Jobs.of(10, kinds), a), -1);
        }
    }

    private void patternOfMissingKinds() {
        document.quote("Terms", "of kinds that there are not, 0.");
        RollPlanner x = Jobs.of(60, 1, 6, 1, 6, 1, 6, 1, 6);
        for (int missing = 3; missing >= 0; missing--) {
            int[] a = {0, 0, 0, 0};
            a[missing] = 1;
            checks.same("1 of kind " + missing + ", the last", with(x, a), 2);
            x.drop();
            checks.same("1 of kind " + missing + ", which has gone", with(x, a), -1);
            a[missing] = 0;
            checks.same("0 of it", with(x, a), x.rolls() + 1);
        }
        x.kind(60, 1);
        checks.same("a price of missing kinds", x.price(7, 1000, 1000, 1000), 7);
    }

    private void planHasJustTheDemand() {
        document.quote("Terms", "A PLAN is a row of patterns that have together of each kind just as many pieces as are asked for.");
        for (int demand = 0; demand <= 6; demand++) {
            sums(Jobs.of(60, 1, demand));
            sums(Jobs.of(60, 1, demand, 1, 6 - demand, 20, demand, 30, 3));
            sums(Jobs.of(10, 7, demand, 5, 6, 3, 6 - demand, 2, 0));
            sums(Jobs.of(1, 1, demand, 1, 6, 1, 0, 1, demand));
        }
        checks.same("one piece, room for sixty", Jobs.plan(Jobs.of(60, 1, 1)), "1");
    }

    private void sums(RollPlanner x) {
        for (int k = 0; k < x.of(1); k++) {
            int sum = 0;
            for (int i = 0; i < x.rolls(); i++) {
                sum += x.cut(i, k);
            }
            checks.same(Jobs.state(x) + ", pieces of kind " + k, sum, x.ofKind(k, 1));
        }
    }

    private void leftOver() {
        document.quote("Terms", "(A roll may be cut so that something is left over.)");
        RollPlanner x = Jobs.of(60, 31, 2);
        checks.same("rolls", x.rolls(), 2);
        checks.same("the plan", Jobs.plan(x), "1 1");
        checks.same("a pattern with something left over", x.with(1, 0, 0, 0), 2);
        checks.same("a pattern with all left over", x.with(0, 0, 0, 0), 3);
        checks.same("the floor", Jobs.floor(x), "2/1");
        checks.same("the price", x.price(9, 0, 0, 0), 9);
    }

    private void orderOfPatterns() {
        document.quote("Terms", "ORDER of patterns: of two the one comes first that has more of the first kind of which they have not as many.");
        checks.same("kind 0 tells", Jobs.plan(Jobs.of(2, 1, 3)), "2 1");
        checks.same("kind 1 tells", Jobs.plan(Jobs.of(3, 2, 2, 1, 1)), "1,1 1,0");
        checks.same("kind 2 tells", Jobs.plan(Jobs.of(4, 3, 2, 4, 0, 1, 1)), "1,0,1 1,0,0");
        checks.same("kind 3 tells", Jobs.plan(Jobs.of(4, 3, 2, 4, 0, 4, 0, 1, 1)), "1,0,0,1 1,0,0,0");
        checks.same("more of kind 0, though fewer pieces", Jobs.plan(Jobs.of(9, 9, 1, 1, 6)), "1,0 0,6");
        checks.same("more of kind 0, though less wide", Jobs.plan(Jobs.of(9, 2, 1, 9, 1)), "1,0 0,1");
    }

    private void orderInAPlan() {
        document.quote("Terms", "In a plan patterns stand in ORDER");
        checks.same("the fullest last", Jobs.plan(Jobs.of(10, 3, 1, 10, 1, 9, 1, 8, 1)), "1,0,0,0 0,1,0,0 0,0,1,0 0,0,0,1");
        checks.same("like ones side by side", Jobs.plan(Jobs.of(10, 6, 3, 4, 2)), "1,1 1,1 1,0");
        for (int seed = 0; seed < 60; seed++) {
            int width = 20 + seed % 41;
            RollPlanner x = Jobs.of(width, 3 + seed % 17, 6, 2 + seed % 13, 6, 4 + seed % 11, 5, 1 + seed % 19, 6);
            String job = Jobs.state(x);
            for (int i = 1; i < x.rolls(); i++) {
                checks.holds(job + ", rolls " + (i - 1) + " and " + i, inOrder(x, i - 1, i));
            }
        }
    }

    private static boolean inOrder(RollPlanner x, int i, int j) {
        for (int k = 0; k < x.of(1); k++) {
            if (x.cut(i, k) != x.cut(j, k)) {
                return x.cut(i, k) > x.cut(j, k);
            }
        }
        return true;
    }

    private void orderOfPlans() {
        document.quote("Terms", "of two plans with as many patterns the one comes first that has the pattern that comes first where they differ first.");
        checks.same("they differ at the first roll", Jobs.plan(Jobs.of(2, 1, 1, 1, 1, 1, 1, 1, 1)), "1,1,0,0 0,0,1,1");
        // Behind a roll full of kind 0: 0,2,1,0 0,0,0,1 comes ahead of 0,2,0,1 0,0,1,0.
        checks.same("they differ at the second roll", Jobs.plan(Jobs.of(3, 3, 1, 1, 2, 1, 1, 1, 1)), "1,0,0,0 0,2,1,0 0,0,0,1");
        // 0,3 0,1 and 0,2 0,2 differ behind two rolls that are alike.
        checks.same("they differ at the third roll", Jobs.plan(Jobs.of(3, 3, 2, 1, 4)), "1,0 1,0 0,3 0,1");
        checks.same("not spread, but as much as can be first", Jobs.plan(Jobs.of(10, 2, 6)), "5 1");
    }

    private void fewestComesFirst() {
        document.quote("Terms", "THE BEST PLAN is the first of those with the fewest patterns.");
        // 2,0 comes ahead of 1,1, but leaves two rolls more to be cut.
        checks.same("not the first of all", Jobs.plan(Jobs.of(10, 4, 2, 6, 2)), "1,1 1,1");
        checks.same("not first at the second roll", Jobs.plan(Jobs.of(10, 10, 1, 4, 2, 6, 2)), "1,0,0 0,1,1 0,1,1");
        checks.same("the first, where it is one of the fewest", Jobs.plan(Jobs.of(10, 4, 2, 6, 1)), "2,0 0,1");
        checks.same("nothing asked for: no patterns", Jobs.of(10, 4, 0, 6, 0).rolls(), 0);
    }

    private void mixtureMeetsTheDemand() {
        document.quote("Terms", "A MIXTURE gives each of some patterns a rational number from 0 on, so that of each kind the sum of these numbers, each times how many pieces its pattern has, is the demand.");
        checks.same("numbers of 0 alone", Jobs.floor(Jobs.of(60, 1, 0, 60, 0, 7, 0, 30, 0)), "0/1");
        checks.same("a number below 1", Jobs.floor(Jobs.of(60, 1, 1)), "1/60");
        checks.same("a number of just 1", Jobs.floor(Jobs.of(6, 1, 6)), "1/1");
        checks.same("a number above 1", Jobs.floor(Jobs.of(5, 1, 6)), "6/5");
        // A number below 0 for 0,1 would make 1,0 out of 1,1 at no cost.
        checks.same("no number below 0", Jobs.floor(Jobs.of(10, 4, 1, 6, 0)), "1/2");
        checks.same("each kind its own demand", Jobs.floor(Jobs.of(10, 10, 1, 10, 2, 10, 3, 10, 4)), "10/1");
    }

    private void costOfAMixture() {
        document.quote("Terms", "Its COST is the sum of the numbers.");
        checks.same("of one number", Jobs.floor(Jobs.of(10, 10, 6)), "6/1");
        checks.same("of four numbers", Jobs.floor(Jobs.of(10, 10, 6, 10, 6, 10, 6, 10, 6)), "24/1");
        checks.same("something left over is as dear", Jobs.floor(Jobs.of(10, 6, 6)), "6/1");
    }

    private void floorIsTheLeast() {
        document.quote("Terms", "THE FLOOR is the least cost of a mixture.");
        for (int width = 1; width <= 60; width++) {
            for (int piece = 1; piece <= width; piece++) {
                RollPlanner x = Jobs.of(width, piece, 5);
                // Alone, a kind is cut as often as it goes into a roll.
                boolean same = x.floorTop() * (width / piece) == 5 * x.floorBottom();
                checks.holds("5 pieces of " + piece + " on rolls of " + width, same);
            }
        }
        checks.same("two kinds that go into each other", Jobs.floor(Jobs.of(10, 4, 3, 6, 2)), "5/2");
        checks.same("below rolls()", Jobs.floor(Jobs.of(10, 4, 5)), "5/2");
        checks.same("a mixture of three", Jobs.floor(Jobs.of(10, 7, 2, 5, 3, 3, 4)), "25/6");
    }

    private static int with(RollPlanner x, int[] a) {
        return x.with(a[0], a[1], a[2], a[3]);
    }
}
