import java.util.List;
import java.util.function.ObjIntConsumer;
import java.util.function.ToLongFunction;

/** What an object is good for: its 512th call answers as its first would. */
final class LastCallEdges {
    private static final int CALLS = 512;

    private record Question(String name, ToLongFunction<RollPlanner> call, long due) {}

    private record Filler(String name, ObjIntConsumer<RollPlanner> call) {}

    /** What is due is so for the job of setUp(), in which each question has its ordinary answer. */
    private static final List<Question> QUESTIONS = List.of(
            new Question("of(0)", x -> x.of(0), 10),
            new Question("of(1)", x -> x.of(1), 3),
            new Question("ofKind(2, 1)", x -> x.ofKind(2, 1), 4),
            new Question("rolls()", x -> x.rolls(), 5),
            new Question("cut(2, 1)", x -> x.cut(2, 1), 2),
            new Question("cut(5, 0)", x -> x.cut(5, 0), -1),
            new Question("with(0, 0, 3, 0)", x -> x.with(0, 0, 3, 0), 5),
            new Question("floorTop()", x -> x.floorTop(), 25),
            new Question("floorBottom()", x -> x.floorBottom(), 6),
            new Question("price(7, 6, 4, 0)", x -> x.price(7, 6, 4, 0), 12),
            new Question("kind(10, 6)", x -> x.kind(10, 6), 3),
            new Question("kind(11, 6)", x -> x.kind(11, 6), -1),
            new Question("ask(2, 6)", x -> x.ask(2, 6) ? 1 : 0, 1),
            new Question("ask(2, 7)", x -> x.ask(2, 7) ? 1 : 0, 0),
            new Question("drop()", x -> x.drop(), 2),
            new Question("begin(60)", x -> x.begin(60) ? 1 : 0, 1),
            new Question("begin(61)", x -> x.begin(61) ? 1 : 0, 0));

    /** What a new object answers, however often it is asked. */
    private static final List<Question> ALIKE = List.of(
            new Question("begin(60)", x -> x.begin(60) ? 1 : 0, 1),
            new Question("begin(61)", x -> x.begin(61) ? 1 : 0, 0),
            new Question("kind(2, 1)", x -> x.kind(2, 1), -1),
            new Question("ask(0, 1)", x -> x.ask(0, 1) ? 1 : 0, 0),
            new Question("drop()", x -> x.drop(), -1),
            new Question("of(0)", x -> x.of(0), 1),
            new Question("ofKind(0, 0)", x -> x.ofKind(0, 0), -1),
            new Question("rolls()", x -> x.rolls(), 0),
            new Question("cut(0, 0)", x -> x.cut(0, 0), -1),
            new Question("with(0, 0, 0, 0)", x -> x.with(0, 0, 0, 0), 1),
            new Question("floorTop()", x -> x.floorTop(), 0),
            new Question("floorBottom()", x -> x.floorBottom(), 1),
            new Question("price(1, 1, 1, 1)", x -> x.price(1, 1, 1, 1), 0));

    private static final List<Filler> QUESTIONS_ALONE = List.of(
            new Filler("rolls()", (x, n) -> x.rolls()),
            new Filler("cut", (x, n) -> x.cut(n % 7 - 1, n % 4)),
            new Filler("with", (x, n) -> x.with(n % 2, n % 3, n % 4 - 1, 0)),
            new Filler("floorTop()", (x, n) -> x.floorTop()),
            new Filler("floorBottom()", (x, n) -> x.floorBottom()),
            new Filler("price", (x, n) -> x.price(n, 1000000 - n, 7, n % 2)),
            new Filler("refused calls", (x, n) -> refusedChange(x, n)));

    private static final List<Filler> CHANGES = List.of(
            new Filler("begin", (x, n) -> x.begin(1 + n % 60)),
            new Filler("kind", (x, n) -> x.kind(1, n % 7)),
            new Filler("kind and drop", (x, n) -> addAndDrop(x, n)),
            new Filler("all changes", (x, n) -> anyChange(x, n)));

    private final Checks checks;
    private final Document document;

    LastCallEdges(Checks checks, Document document) {
        this.checks = checks;
        this.document = document;
    }

    void run() {
        document.quote("What it is", "An object is used for at most 512 calls after it has been made");
        for (Question question : ALIKE) {
            alikeToTheLast(question);
        }
        for (Question question : QUESTIONS) {
            for (Filler filler : CHANGES) {
                lastAfter(filler, question);
            }
            for (Filler filler : QUESTIONS_ALONE) {
                lastAfter(filler, question);
                lastBehind(filler, question);
            }
        }
        document.quote("What it is", "what later calls answer is free.");
        for (Filler filler : CHANGES) {
            laterCallsEnd(filler);
        }
        document.quote("Not promised", "and nothing about an object after its 512th call.");
        for (Filler filler : QUESTIONS_ALONE) {
            laterCallsEnd(filler);
        }
    }

    private void alikeToTheLast(Question question) {
        RollPlanner x = new RollPlanner();
        for (int n = 1; n <= CALLS; n++) {
            checks.same("call " + n + ", all of them " + question.name, question.call.applyAsLong(x), question.due);
        }
    }

    /** Takes four calls. */
    private static void setUp(RollPlanner x) {
        Jobs.setUp(x, 10, 7, 2, 5, 3, 3, 4);
    }

    private void lastAfter(Filler filler, Question question) {
        RollPlanner x = new RollPlanner();
        for (int n = 0; n < CALLS - 5; n++) {
            filler.call.accept(x, n);
        }
        setUp(x);
        checks.same("the 512th call, " + question.name + " after " + filler.name, question.call.applyAsLong(x), question.due);
    }

    private void lastBehind(Filler filler, Question question) {
        RollPlanner x = new RollPlanner();
        setUp(x);
        for (int n = 0; n < CALLS - 5; n++) {
            filler.call.accept(x, n);
        }
        checks.same("the 512th call, " + question.name + " behind " + filler.name, question.call.applyAsLong(x), question.due);
    }

    /** No answer is due any more, but no call may throw. */
    private void laterCallsEnd(Filler filler) {
        RollPlanner x = new RollPlanner();
        setUp(x);
        for (int n = 0; n < 4 * CALLS; n++) {
            filler.call.accept(x, n);
            QUESTIONS.get(n % QUESTIONS.size()).call.applyAsLong(x);
        }
        checks.holds("the calls after the 512th have ended, " + filler.name, true);
    }

    private static void refusedChange(RollPlanner x, int n) {
        switch (n % 4) {
            case 0 -> x.begin(61 + n);
            case 1 -> x.kind(11, n % 7);
            case 2 -> x.ask(3, n % 7);
            default -> x.ask(0, 7 + n);
        }
    }

    private static void addAndDrop(RollPlanner x, int n) {
        if (n % 2 == 0) {
            x.kind(1, n % 7);
        } else {
            x.drop();
        }
    }

    private static void anyChange(RollPlanner x, int n) {
        switch (n % 11) {
            case 0 -> x.begin(1 + n % 60);
            case 7 -> x.ask(n % 4, n % 8);
            case 8 -> x.drop();
            case 9 -> x.cut(n % 5, 0);
            case 10 -> x.floorTop();
            default -> x.kind(1 + n % 13, n % 7);
        }
    }
}
