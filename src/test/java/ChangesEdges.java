import java.util.Arrays;

/** The sentences of promises 1 to 5: what makes a job and changes it. */
final class ChangesEdges {
    private final Checks checks;
    private final Document document;

    ChangesEdges(Checks checks, Document document) {
        this.checks = checks;
        this.document = document;
    }

    void run() {
        newObject();
        beginLeavesNoKinds();
        beginAnswersTrue();
        beginRefuses();
        kindGoesBehind();
        kindAnswersItsNumber();
        kindRefusesAFifth();
        kindRefusesWidthsAndDemands();
        askChangesOneDemand();
        askAnswersTrue();
        askRefusesMissingKinds();
        askRefusesDemands();
        dropTakesTheLast();
        dropAnswersHowManyAreLeft();
        dropRefusesWithoutKinds();
    }

    private void newObject() {
        document.quote("Promise 1", "Rolls of width 1, no kinds.");
        hasNoKinds("a new object", new RollPlanner(), 1);
        for (int demand = 0; demand <= 6; demand++) {
            RollPlanner x = new RollPlanner();
            checks.same("kind(2, " + demand + ")", x.kind(2, demand), -1);
            checks.same("kind(0, " + demand + ")", x.kind(0, demand), -1);
            checks.same("kind(1, " + demand + ")", x.kind(1, demand), 0);
            checks.same("then rolls()", x.rolls(), demand);
        }
    }

    /** Every answer of an object without kinds. */
    private void hasNoKinds(String which, RollPlanner x, int width) {
        checks.same(which + ": of(0)", x.of(0), width);
        checks.same(which + ": of(1)", x.of(1), 0);
        for (int k = -1; k <= 4; k++) {
            checks.same(which + ": ofKind(" + k + ", 0)", x.ofKind(k, 0), -1);
            checks.same(which + ": ofKind(" + k + ", 1)", x.ofKind(k, 1), -1);
            checks.same(which + ": cut(0, " + k + ")", x.cut(0, k), -1);
            checks.refused(which + ": ask(" + k + ", 0)", x.ask(k, 0));
        }
        checks.same(which + ": rolls()", x.rolls(), 0);
        checks.same(which + ": the floor", Jobs.floor(x), "0/1");
        checks.same(which + ": the empty pattern", x.with(0, 0, 0, 0), 1);
        checks.same(which + ": with(1, 0, 0, 0)", x.with(1, 0, 0, 0), -1);
        checks.same(which + ": with(0, 0, 0, 1)", x.with(0, 0, 0, 1), -1);
        checks.same(which + ": price(9, 9, 9, 9)", x.price(9, 9, 9, 9), 0);
        checks.same(which + ": drop()", x.drop(), -1);
        checks.same(which + ": of(1) at last", x.of(1), 0);
    }

    private void beginLeavesNoKinds() {
        document.quote("Promise 2", "Rolls of another width, without kinds.");
        int[] widths = {1, 2, 10, 59, 60};
        int[] kinds = {1, 6, 7, 2, 10, 1, 1, 0};
        for (int width : widths) {
            for (int n = 0; n <= 4; n++) {
                RollPlanner x = Jobs.of(10, Arrays.copyOf(kinds, 2 * n));
                Jobs.plan(x);
                x.begin(width);
                hasNoKinds("begin(" + width + ") after " + n + " kinds", x, width);
                checks.same("the next kind is the first", x.kind(width, 2), 0);
                checks.same("its plan", Jobs.plan(x), "1 1");
            }
        }
        RollPlanner wide = Jobs.of(60, 60, 1);
        wide.begin(59);
        checks.same("the rolls before were wider", wide.kind(60, 1), -1);
        RollPlanner narrow = Jobs.of(59, 59, 1);
        narrow.begin(60);
        checks.same("the rolls before were narrower", narrow.kind(60, 1), 0);
    }

    private void beginAnswersTrue() {
        document.quote("Promise 2", "Answers true");
        for (int width = 1; width <= 60; width++) {
            RollPlanner x = new RollPlanner();
            checks.holds("begin(" + width + ")", x.begin(width));
            checks.holds("begin(" + width + ") again", x.begin(width));
            checks.holds("begin(" + (61 - width) + ") after it", x.begin(61 - width));
        }
    }

    private void beginRefuses() {
        document.quote("Promise 2", "false when it is not 1 .. 60.");
        for (int width : Numbers.off(1, 60)) {
            RollPlanner x = Jobs.of(10, 7, 2, 5, 3);
            checks.refused("begin(" + width + ")", x.begin(width));
            checks.same("after it", Jobs.state(x), "10: 7x2 5x3");
        }
    }

    private void kindGoesBehind() {
        document.quote("Promise 3", "One more kind, behind the others.");
        RollPlanner x = Jobs.of(10);
        x.kind(5, 1);
        checks.same("one kind", Jobs.state(x), "10: 5x1");
        checks.same("its plan", Jobs.plan(x), "1");
        x.kind(10, 2);
        checks.same("a wider one", Jobs.state(x), "10: 5x1 10x2");
        checks.same("the plan with it", Jobs.plan(x), "1,0 0,1 0,1");
        x.kind(1, 0);
        checks.same("a narrower one", Jobs.state(x), "10: 5x1 10x2 1x0");
        checks.same("the plan with it", Jobs.plan(x), "1,0,0 0,1,0 0,1,0");
        x.kind(5, 1);
        checks.same("one like the first", Jobs.state(x), "10: 5x1 10x2 1x0 5x1");
        checks.same("the plan with it", Jobs.plan(x), "1,0,0,1 0,1,0,0 0,1,0,0");
    }

    private void kindAnswersItsNumber() {
        document.quote("Promise 3", "Answers its number");
        RollPlanner x = Jobs.of(60);
        for (int round = 0; round < 3; round++) {
            for (int number = 0; number < 4; number++) {
                checks.same("round " + round, x.kind(60 - number, number + round), number);
            }
            checks.same("the number after a drop", x.drop() == 3 ? x.kind(7, 6) : -2, 3);
            x.begin(60);
        }
    }

    private void kindRefusesAFifth() {
        document.quote("Promise 3", "NONE when there are four");
        RollPlanner x = Jobs.of(10, 7, 2, 5, 3, 3, 4);
        checks.same("with three", x.kind(1, 1), 3);
        checks.same("with four", x.kind(1, 1), -1);
        checks.same("with four, a demand of 0", x.kind(10, 0), -1);
        checks.same("with four, all wrong", x.kind(0, -1), -1);
        checks.same("the four", Jobs.state(x), "10: 7x2 5x3 3x4 1x1");
        x.drop();
        checks.same("with three again", x.kind(2, 6), 3);
        checks.same("with four again", x.kind(2, 6), -1);
        checks.same("the four then", Jobs.state(x), "10: 7x2 5x3 3x4 2x6");
    }

    private void kindRefusesWidthsAndDemands() {
        document.quote("Promise 3", "or the width or the demand is not such.");
        int[] some = {1, 2, 31, 59, 60};
        for (int rollWidth : some) {
            for (int width : Numbers.off(1, rollWidth)) {
                RollPlanner x = Jobs.of(rollWidth, 1, 2);
                checks.same("width " + width + " on rolls of " + rollWidth, x.kind(width, 1), -1);
                checks.same("after it", Jobs.state(x), rollWidth + ": 1x2");
            }
        }
        for (int demand : Numbers.off(0, 6)) {
            RollPlanner x = Jobs.of(10, 7, 2);
            checks.same("demand " + demand, x.kind(5, demand), -1);
            checks.same("demand " + demand + " and a wrong width", x.kind(11, demand), -1);
            checks.same("after it", Jobs.state(x), "10: 7x2");
        }
        for (int demand = 0; demand <= 6; demand++) {
            checks.same("demand " + demand, Jobs.of(10, 7, 2).kind(5, demand), 1);
        }
    }

    private void askChangesOneDemand() {
        document.quote("Promise 4", "A kind gets another demand.");
        for (int kind = 0; kind < 4; kind++) {
            for (int demand = 0; demand <= 6; demand++) {
                RollPlanner x = Jobs.of(60, 60, 1, 59, 2, 58, 3, 57, 4);
                x.ask(kind, demand);
                int[] demands = {1, 2, 3, 4};
                int before = demands[kind];
                demands[kind] = demand;
                String due = "60: 60x" + demands[0] + " 59x" + demands[1] + " 58x" + demands[2] + " 57x" + demands[3];
                checks.same("ask(" + kind + ", " + demand + ")", Jobs.state(x), due);
                checks.same("the rolls after it", x.rolls(), 10 - before + demand);
            }
        }
        RollPlanner x = Jobs.of(10, 4, 2, 6, 2);
        checks.same("the plan before", Jobs.plan(x), "1,1 1,1");
        x.ask(1, 1);
        checks.same("the plan with one piece less", Jobs.plan(x), "2,0 0,1");
        x.ask(1, 0);
        checks.same("the plan with none of it", Jobs.plan(x), "2,0");
        x.ask(0, 6);
        checks.same("the plan with six of the other", Jobs.plan(x), "2,0 2,0 2,0");
    }

    private void askAnswersTrue() {
        document.quote("Promise 4", "Answers true");
        RollPlanner x = Jobs.of(60, 60, 1, 59, 2, 58, 3, 57, 4);
        for (int kind = 0; kind < 4; kind++) {
            for (int demand = 0; demand <= 6; demand++) {
                checks.holds("ask(" + kind + ", " + demand + ")", x.ask(kind, demand));
                checks.holds("ask(" + kind + ", " + demand + ") again", x.ask(kind, demand));
            }
        }
    }

    private void askRefusesMissingKinds() {
        document.quote("Promise 4", "false when there is none such");
        RollPlanner x = Jobs.of(9);
        for (int kinds = 0; kinds <= 4; kinds++) {
            String of = " of " + kinds + " kinds";
            checks.refused("ask(" + kinds + ", 1)" + of, x.ask(kinds, 1));
            checks.refused("ask(-1, 1)" + of, x.ask(-1, 1));
            if (kinds > 0) {
                checks.holds("ask(" + (kinds - 1) + ", 1)" + of, x.ask(kinds - 1, 1));
                checks.holds("ask(0, 1)" + of, x.ask(0, 1));
            }
            x.kind(9, 5);
        }
        for (int kind : Numbers.off(0, 3)) {
            checks.refused("ask(" + kind + ", 2)", x.ask(kind, 2));
        }
        checks.same("after all", Jobs.state(x), "9: 9x1 9x1 9x1 9x1");
        x.drop();
        checks.refused("ask(3, 2) of a kind that has gone", x.ask(3, 2));
        x.kind(8, 4);
        checks.same("another in its stead", Jobs.state(x), "9: 9x1 9x1 9x1 8x4");
    }

    private void askRefusesDemands() {
        document.quote("Promise 4", "or it is not 0 .. 6.");
        for (int demand : Numbers.off(0, 6)) {
            RollPlanner x = Jobs.of(60, 60, 1, 59, 2, 58, 3, 57, 4);
            for (int kind = 0; kind < 4; kind++) {
                checks.refused("ask(" + kind + ", " + demand + ")", x.ask(kind, demand));
            }
            checks.same("after it", Jobs.state(x), "60: 60x1 59x2 58x3 57x4");
        }
    }

    private void dropTakesTheLast() {
        document.quote("Promise 5", "The last kind goes.");
        String[] left = {"60:", "60: 60x1", "60: 60x1 59x2", "60: 60x1 59x2 58x3"};
        int[] rolls = {0, 1, 3, 6};
        RollPlanner x = Jobs.of(60, 60, 1, 59, 2, 58, 3, 57, 4);
        for (int kinds = 3; kinds >= 0; kinds--) {
            x.drop();
            String to = ", after a drop to " + kinds;
            checks.same("the kinds" + to, Jobs.state(x), left[kinds]);
            checks.same("rolls()" + to, x.rolls(), rolls[kinds]);
            checks.same("the floor" + to, Jobs.floor(x), rolls[kinds] + "/1");
            checks.same("ofKind(" + kinds + ", 0)" + to, x.ofKind(kinds, 0), -1);
            checks.same("cut(0, " + kinds + ")" + to, x.cut(0, kinds), -1);
            checks.same("price" + to, x.price(1, 2, 3, 4), kinds);
        }
        RollPlanner shared = Jobs.of(10, 4, 2, 6, 2);
        checks.same("the plan before", Jobs.plan(shared), "1,1 1,1");
        shared.drop();
        checks.same("the plan of the kind that is left", Jobs.plan(shared), "2");
        shared.kind(6, 1);
        checks.same("the plan with another behind it", Jobs.plan(shared), "2,0 0,1");
    }

    private void dropAnswersHowManyAreLeft() {
        document.quote("Promise 5", "Answers how many are left");
        int[] kinds = {1, 6, 7, 0, 10, 1, 1, 0};
        for (int n = 1; n <= 4; n++) {
            RollPlanner x = Jobs.of(10, Arrays.copyOf(kinds, 2 * n));
            for (int left = n - 1; left >= 0; left--) {
                checks.same("drop() to " + left + " of " + n, x.drop(), left);
            }
        }
    }

    private void dropRefusesWithoutKinds() {
        document.quote("Promise 5", "NONE when there are none.");
        RollPlanner x = new RollPlanner();
        checks.same("drop() on a new object", x.drop(), -1);
        checks.same("drop() once more", x.drop(), -1);
        checks.same("the kinds after it", x.of(1), 0);
        checks.same("the next kind", x.kind(1, 1), 0);
        checks.same("drop() of the only kind", x.drop(), 0);
        checks.same("drop() behind it", x.drop(), -1);
        x.begin(60);
        checks.same("drop() after begin", x.drop(), -1);
        checks.same("the rolls after it", Jobs.state(x), "60:");
    }
}
