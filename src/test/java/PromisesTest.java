/** Each promise of the document: ordinary inputs, the edges that it names, and wrong inputs. */
public final class PromisesTest {
    private static final int[] FAR = {Integer.MIN_VALUE, Integer.MIN_VALUE + 1, -1000, Integer.MAX_VALUE};

    private final Checks checks = new Checks();

    public static void main(String[] args) {
        PromisesTest test = new PromisesTest();
        test.promise1NewObject();
        test.promise2Begin();
        test.promise3Kind();
        test.promise4Ask();
        test.promise5Drop();
        test.promise6Of();
        test.promise7OfKind();
        test.promise8Rolls();
        test.promise9Cut();
        test.promise9FirstOfTheBest();
        test.promise10With();
        test.promise11And12Floor();
        test.promise13Price();
        test.refusedCallsChangeNothing();
        test.questionsChangeNothing();
        test.answersFollowEveryChange();
        test.objectsAreApart();
        test.checks.end("PromisesTest");
    }

    private void promise1NewObject() {
        RollPlanner x = new RollPlanner();
        checks.same("NONE", RollPlanner.NONE, -1);
        checks.same("a new object", Jobs.state(x), "1:");
        checks.same("rolls() of a new object", x.rolls(), 0);
        checks.same("floor of a new object", Jobs.floor(x), "0/1");
        checks.same("cut(0, 0) of a new object", x.cut(0, 0), -1);
        checks.same("with() of a new object", x.with(0, 0, 0, 0), 1);
        checks.same("price() of a new object", x.price(1, 2, 3, 4), 0);
        checks.same("kind(1, 1) on a new object", x.kind(1, 1), 0);
    }

    private void promise2Begin() {
        RollPlanner x = Jobs.of(10, 7, 2, 5, 3);
        checks.holds("begin(1)", x.begin(1));
        checks.same("after begin(1)", Jobs.state(x), "1:");
        checks.holds("begin(60)", x.begin(60));
        checks.same("after begin(60)", Jobs.state(x), "60:");
        x.kind(60, 6);
        checks.holds("begin(60) again", x.begin(60));
        checks.same("begin of the same width leaves no kinds", Jobs.state(x), "60:");
        checks.same("and nothing to cut", x.rolls(), 0);
        for (int wrong : new int[] {0, 61, -1}) {
            checks.refused("begin(" + wrong + ")", x.begin(wrong));
        }
        for (int wrong : FAR) {
            checks.refused("begin(" + wrong + ")", x.begin(wrong));
        }
    }

    private void promise3Kind() {
        RollPlanner x = Jobs.of(10);
        checks.same("kind(0, 1)", x.kind(0, 1), -1);
        checks.same("kind(11, 1)", x.kind(11, 1), -1);
        checks.same("kind(5, -1)", x.kind(5, -1), -1);
        checks.same("kind(5, 7)", x.kind(5, 7), -1);
        for (int wrong : FAR) {
            checks.same("kind(" + wrong + ", 1)", x.kind(wrong, 1), -1);
            checks.same("kind(1, " + wrong + ")", x.kind(1, wrong), -1);
        }
        checks.same("kind(10, 6)", x.kind(10, 6), 0);
        checks.same("kind(1, 0)", x.kind(1, 0), 1);
        checks.same("kind(1, 2), of a width that there is", x.kind(1, 2), 2);
        checks.same("kind(4, 3)", x.kind(4, 3), 3);
        checks.same("a fifth kind", x.kind(4, 3), -1);
        checks.same("four kinds", Jobs.state(x), "10: 10x6 1x0 1x2 4x3");
        x.begin(9);
        checks.same("kind(10, 1) on narrower rolls", x.kind(10, 1), -1);
        checks.same("kind(9, 1) on narrower rolls", x.kind(9, 1), 0);
    }

    private void promise4Ask() {
        RollPlanner x = Jobs.of(10, 7, 2, 5, 3);
        checks.holds("ask(0, 6)", x.ask(0, 6));
        checks.holds("ask(1, 0)", x.ask(1, 0));
        checks.same("after both", Jobs.state(x), "10: 7x6 5x0");
        checks.holds("ask(1, 0) again", x.ask(1, 0));
        checks.refused("ask(2, 1)", x.ask(2, 1));
        checks.refused("ask(3, 1)", x.ask(3, 1));
        checks.refused("ask(4, 1)", x.ask(4, 1));
        checks.refused("ask(-1, 1)", x.ask(-1, 1));
        checks.refused("ask(0, 7)", x.ask(0, 7));
        checks.refused("ask(0, -1)", x.ask(0, -1));
        for (int wrong : FAR) {
            checks.refused("ask(" + wrong + ", 1)", x.ask(wrong, 1));
            checks.refused("ask(0, " + wrong + ")", x.ask(0, wrong));
        }
        checks.same("after the wrong ones", Jobs.state(x), "10: 7x6 5x0");
        checks.refused("ask(0, 1) without kinds", new RollPlanner().ask(0, 1));
    }

    private void promise5Drop() {
        RollPlanner x = Jobs.of(10, 7, 2, 5, 3, 3, 4, 1, 6);
        checks.same("drop() of four", x.drop(), 3);
        checks.same("after it", Jobs.state(x), "10: 7x2 5x3 3x4");
        checks.same("drop() of three", x.drop(), 2);
        checks.same("drop() of two", x.drop(), 1);
        checks.same("after it", Jobs.state(x), "10: 7x2");
        checks.same("drop() of one", x.drop(), 0);
        checks.same("drop() of none", x.drop(), -1);
        checks.same("after all", Jobs.state(x), "10:");
        checks.same("a kind after drops", x.kind(2, 2), 0);
        checks.same("drop() of it", x.drop(), 0);
        x.begin(3);
        checks.same("drop() after begin", x.drop(), -1);
    }

    private void promise6Of() {
        RollPlanner x = Jobs.of(37, 7, 2, 5, 3);
        checks.same("of(0)", x.of(0), 37);
        checks.same("of(1)", x.of(1), 2);
        checks.same("of(2)", x.of(2), -1);
        checks.same("of(-1)", x.of(-1), -1);
        for (int wrong : FAR) {
            checks.same("of(" + wrong + ")", x.of(wrong), -1);
        }
    }

    private void promise7OfKind() {
        RollPlanner x = Jobs.of(37, 7, 2, 5, 0);
        checks.same("ofKind(0, 0)", x.ofKind(0, 0), 7);
        checks.same("ofKind(0, 1)", x.ofKind(0, 1), 2);
        checks.same("ofKind(1, 0)", x.ofKind(1, 0), 5);
        checks.same("ofKind(1, 1)", x.ofKind(1, 1), 0);
        for (int what = 0; what < 2; what++) {
            checks.same("ofKind(2, " + what + ")", x.ofKind(2, what), -1);
            checks.same("ofKind(3, " + what + ")", x.ofKind(3, what), -1);
            checks.same("ofKind(4, " + what + ")", x.ofKind(4, what), -1);
            checks.same("ofKind(-1, " + what + ")", x.ofKind(-1, what), -1);
        }
        checks.same("ofKind(0, 2)", x.ofKind(0, 2), -1);
        checks.same("ofKind(0, -1)", x.ofKind(0, -1), -1);
        for (int wrong : FAR) {
            checks.same("ofKind(" + wrong + ", 0)", x.ofKind(wrong, 0), -1);
            checks.same("ofKind(0, " + wrong + ")", x.ofKind(0, wrong), -1);
        }
        x.drop();
        checks.same("ofKind(1, 0) of a kind that has gone", x.ofKind(1, 0), -1);
    }

    private void promise8Rolls() {
        checks.same("no kinds", Jobs.of(60).rolls(), 0);
        checks.same("nothing asked for", Jobs.of(60, 1, 0, 60, 0).rolls(), 0);
        checks.same("each on a roll of its own", Jobs.of(1, 1, 6, 1, 6, 1, 6, 1, 6).rolls(), 24);
        checks.same("all on one roll", Jobs.of(60, 1, 6, 2, 6, 3, 6, 4, 6).rolls(), 1);
        checks.same("one too much for a roll", Jobs.of(59, 1, 6, 2, 6, 3, 6, 4, 6).rolls(), 2);
        checks.same("left-overs on each roll", Jobs.of(60, 31, 6, 31, 6, 31, 6, 31, 6).rolls(), 24);
        checks.same("halves", Jobs.of(60, 30, 6, 30, 5).rolls(), 6);
        // To put the widest that still fits takes three, 5+4 3+3+3 3; the best are 5+3+3 4+3+3.
        checks.same("the widest first is not the best", Jobs.of(11, 5, 1, 4, 1, 3, 4).rolls(), 2);
    }

    private void promise9Cut() {
        RollPlanner x = Jobs.of(10, 7, 2, 5, 3, 3, 4);
        checks.same("the plan", Jobs.plan(x), "1,0,1 1,0,1 0,2,0 0,1,1 0,0,1");
        checks.same("cut(5, 0)", x.cut(5, 0), -1);
        checks.same("cut(-1, 0)", x.cut(-1, 0), -1);
        checks.same("cut(0, 3)", x.cut(0, 3), -1);
        checks.same("cut(0, 4)", x.cut(0, 4), -1);
        checks.same("cut(0, -1)", x.cut(0, -1), -1);
        for (int wrong : FAR) {
            checks.same("cut(" + wrong + ", 0)", x.cut(wrong, 0), -1);
            checks.same("cut(0, " + wrong + ")", x.cut(0, wrong), -1);
        }
        checks.same("a kind that nothing is asked of", Jobs.plan(Jobs.of(10, 3, 0, 5, 3)), "0,2 0,1");
        checks.same("nothing asked for", Jobs.of(10, 3, 0).cut(0, 0), -1);
        RollPlanner most = Jobs.of(60, 60, 6, 59, 6, 58, 6, 57, 6);
        checks.same("cut(0, 0) of 24", most.cut(0, 0), 1);
        checks.same("cut(23, 3) of 24", most.cut(23, 3), 1);
        checks.same("cut(23, 0) of 24", most.cut(23, 0), 0);
        checks.same("cut(24, 0) of 24", most.cut(24, 0), -1);
    }

    private void promise9FirstOfTheBest() {
        checks.same("as much as can be comes first", Jobs.plan(Jobs.of(6, 2, 4, 1, 2)), "3,0 1,2");
        checks.same("kinds of one width are told apart", Jobs.plan(Jobs.of(4, 2, 1, 2, 2, 2, 1)), "1,1,0 0,1,1");
        checks.same("not fuller, but first", Jobs.plan(Jobs.of(10, 4, 2, 6, 1, 1, 3)), "2,0,2 0,1,1");
        // Two of kind 0 on one roll would leave 6, 6 for two rolls more.
        checks.same("a full first roll that costs a roll more", Jobs.plan(Jobs.of(10, 4, 2, 6, 2)), "1,1 1,1");
        checks.same("the numbers of kinds count, not their widths", Jobs.plan(Jobs.of(10, 6, 2, 4, 2)), "1,1 1,1");
        checks.same("two alike, then the rest", Jobs.plan(Jobs.of(12, 5, 4, 2, 2, 7, 1)), "2,1,0 2,1,0 0,0,1");
    }

    private void promise10With() {
        RollPlanner x = Jobs.of(10, 7, 2, 5, 3, 3, 4);
        checks.same("a pattern of the best plan", x.with(1, 0, 1, 0), 5);
        checks.same("one of another plan with as many", x.with(1, 0, 0, 0), 5);
        checks.same("an empty one", x.with(0, 0, 0, 0), 6);
        checks.same("as wide as the roll", x.with(0, 2, 0, 0), 5);
        checks.same("wider than the roll", x.with(1, 1, 0, 0), -1);
        checks.same("wider than the roll by its third kind", x.with(0, 1, 2, 0), -1);
        checks.same("wider than the roll by its number", x.with(2, 0, 0, 0), -1);
        checks.same("of a kind that there is not", x.with(0, 0, 0, 1), -1);
        checks.same("below 0", x.with(0, -1, 0, 0), -1);
        checks.same("below 0, made up for by others", x.with(1, -1, 2, 0), -1);
        RollPlanner few = Jobs.of(60, 1, 2, 2, 0, 3, 1, 4, 6);
        checks.same("all that is asked for", few.with(2, 0, 1, 6), 1);
        checks.same("more than is asked for", few.with(3, 0, 0, 0), -1);
        checks.same("of a kind that nothing is asked of", few.with(0, 1, 0, 0), -1);
        checks.same("all but one piece", few.with(2, 0, 1, 5), 2);
        checks.same("worse than the best plan", Jobs.of(11, 4, 5, 5, 5, 6, 5, 7, 5).with(1, 1, 0, 0), 11);
        checks.same("wider than the roll by its fourth kind", Jobs.of(9, 1, 6, 1, 6, 1, 6, 4, 6).with(0, 1, 1, 2), -1);
        checks.same("as wide as the roll, of all kinds", Jobs.of(9, 1, 1, 2, 1, 2, 1, 4, 1).with(1, 1, 1, 1), 1);
        for (int wrong : FAR) {
            checks.same("a0 far off", few.with(wrong, 0, 0, 0), -1);
            checks.same("a1 far off", few.with(0, wrong, 0, 0), -1);
            checks.same("a2 far off", few.with(0, 0, wrong, 0), -1);
            checks.same("a3 far off", few.with(0, 0, 0, wrong), -1);
        }
        checks.same("widths whose sum runs over an int", few.with(1 << 30, 1 << 30, 0, 1 << 29), -1);
    }

    private void promise11And12Floor() {
        checks.same("no kinds", Jobs.floor(Jobs.of(60)), "0/1");
        checks.same("nothing asked for", Jobs.floor(Jobs.of(60, 7, 0, 60, 0)), "0/1");
        checks.same("a whole number", Jobs.floor(Jobs.of(10, 5, 6)), "3/1");
        checks.same("in lowest terms", Jobs.floor(Jobs.of(60, 1, 6)), "1/10");
        checks.same("patterns may have more than is asked for", Jobs.floor(Jobs.of(60, 1, 1)), "1/60");
        checks.same("what is left over costs", Jobs.floor(Jobs.of(10, 4, 3)), "3/2");
        checks.same("a mixture of three", Jobs.floor(Jobs.of(10, 7, 2, 5, 3, 3, 4)), "25/6");
        checks.same("above rolls() less one", Jobs.floor(Jobs.of(31, 6, 6, 10, 5, 15, 6)), "57/10");
        checks.same("two kinds of one width", Jobs.floor(Jobs.of(7, 3, 1, 3, 2)), "3/2");
        checks.same("one kind without a demand", Jobs.floor(Jobs.of(10, 3, 0, 4, 3, 6, 3)), "3/1");
        checks.same("as many as can be", Jobs.floor(Jobs.of(60, 60, 6, 59, 6, 58, 6, 57, 6)), "24/1");
        checks.same("as wide as can be split", Jobs.floor(Jobs.of(60, 1, 6, 1, 6, 1, 6, 1, 5)), "23/60");
        // Pieces worth 1/5, 3/10, 2/5 and 1/2 show it: no pattern is worth more than 1, the demand 42/5.
        RollPlanner x = Jobs.of(60, 13, 6, 17, 6, 22, 6, 29, 6);
        checks.same("four kinds", Jobs.floor(x), "42/5");
        checks.same("floorBottom() before floorTop()", x.floorBottom(), 5);
        checks.same("floorTop() after it", x.floorTop(), 42);
    }

    private void promise13Price() {
        RollPlanner x = Jobs.of(10, 7, 2, 5, 3, 3, 4);
        checks.same("price of widths", x.price(7, 5, 3, 0), 10);
        checks.same("only one kind is worth something", x.price(0, 0, 1, 0), 3);
        checks.same("more than is asked for", Jobs.of(60, 1, 0, 60, 1).price(1, 59, 0, 0), 60);
        checks.same("the greatest answer", Jobs.of(60, 1, 0, 1, 0, 1, 0, 1, 0).price(1000000, 0, 0, 1000000), 60000000);
        checks.same("not the best by width", x.price(7, 6, 4, 0), 12);
        checks.same("what is left over is free", x.price(10, 4, 3, 0), 13);
        checks.same("nothing is worth anything", x.price(0, 0, 0, 0), 0);
        checks.same("a kind that there is not", x.price(0, 0, 0, 1000000), 0);
        checks.same("no kinds", Jobs.of(60).price(1000000, 1000000, 1000000, 1000000), 0);
        int[] off = {-1, 1000001, Integer.MIN_VALUE, Integer.MAX_VALUE};
        for (int wrong : off) {
            checks.same("p0 is " + wrong, x.price(wrong, 1, 1, 1), -1);
            checks.same("p1 is " + wrong, x.price(1, wrong, 1, 1), -1);
            checks.same("p2 is " + wrong, x.price(1, 1, wrong, 1), -1);
            checks.same("p3 is " + wrong + ", of a kind that there is not", x.price(1, 1, 1, wrong), -1);
        }
    }

    private void refusedCallsChangeNothing() {
        RollPlanner x = Jobs.of(10, 7, 2, 5, 3, 3, 4, 1, 1);
        String before = everything(x);
        x.begin(0);
        x.begin(61);
        x.kind(1, 1);
        x.ask(4, 1);
        x.ask(-1, 1);
        x.ask(0, 7);
        x.ask(0, -1);
        checks.same("after refused calls", everything(x), before);
        x.drop();
        before = everything(x);
        x.kind(11, 1);
        x.kind(0, 1);
        x.kind(1, 7);
        x.kind(1, -1);
        x.ask(3, 1);
        checks.same("after refused calls with three kinds", everything(x), before);
        RollPlanner empty = new RollPlanner();
        before = everything(empty);
        empty.drop();
        empty.kind(2, 1);
        empty.ask(0, 0);
        checks.same("after refused calls without kinds", everything(empty), before);
    }

    private void questionsChangeNothing() {
        RollPlanner x = Jobs.of(31, 6, 6, 10, 5, 15, 6);
        String before = everything(x);
        x.with(5, 0, 0, 0);
        x.with(9, 9, 9, 9);
        x.price(1000000, 3, 7, 1);
        x.price(-1, 0, 0, 0);
        x.cut(99, 99);
        checks.same("after questions", everything(x), before);
        checks.same("asked once more", everything(x), before);
    }

    private void answersFollowEveryChange() {
        RollPlanner x = Jobs.of(10, 7, 2, 5, 3, 3, 4);
        everything(x);
        x.ask(2, 1);
        checks.same("after ask", everything(x), everything(Jobs.of(10, 7, 2, 5, 3, 3, 1)));
        x.kind(2, 6);
        checks.same("after kind", everything(x), everything(Jobs.of(10, 7, 2, 5, 3, 3, 1, 2, 6)));
        x.drop();
        checks.same("after drop", everything(x), everything(Jobs.of(10, 7, 2, 5, 3, 3, 1)));
        x.drop();
        x.kind(4, 5);
        checks.same("after another kind in its place", everything(x), everything(Jobs.of(10, 7, 2, 5, 3, 4, 5)));
        Jobs.setUp(x, 10, 4, 2, 6, 2);
        checks.same("two kinds on each roll", Jobs.plan(x), "1,1 1,1");
        x.drop();
        checks.same("the second kind has gone", Jobs.plan(x), "2");
        Jobs.setUp(x, 9, 4, 3, 5, 3);
        checks.same("after begin", everything(x), everything(Jobs.of(9, 4, 3, 5, 3)));
    }

    private void objectsAreApart() {
        RollPlanner one = Jobs.of(10, 7, 2, 5, 3);
        String before = everything(one);
        RollPlanner other = Jobs.of(60, 1, 6, 2, 6, 3, 6, 4, 6);
        everything(other);
        checks.same("after another object's calls", everything(one), before);
    }

    private static String everything(RollPlanner x) {
        String text = Jobs.state(x) + " rolls " + x.rolls() + " plan " + Jobs.plan(x) + " floor " + Jobs.floor(x);
        return text + " with " + x.with(0, 1, 1, 0) + " price " + x.price(9, 7, 5, 3);
    }
}
