import java.util.ArrayList;
import java.util.List;
import java.util.function.Consumer;
import java.util.function.ToIntFunction;

/**
 * "A call that is refused changes nothing.": two objects get the same calls, one of them a refused call
 * more; after it, and after later changes too, they must answer alike.
 */
final class RefusalEdges {
    /** The first is that of a new object. */
    private static final int[][] JOBS = {
        {1},
        {60},
        {10, 7, 2},
        {10, 4, 2, 6, 2},
        {10, 7, 2, 5, 3, 3, 4},
        {10, 7, 2, 5, 3, 3, 4, 1, 1},
        {60, 13, 0, 17, 6, 22, 0, 29, 6},
        {1, 1, 6, 1, 6, 1, 6, 1, 6},
        {60, 1, 6, 2, 6, 3, 6, 4, 6}
    };

    /** A call that has to be refused: what it answers as a number, false as 0, and what is due. */
    private record Refusal(String name, ToIntFunction<RollPlanner> call, int due) {}

    private record Change(String name, Consumer<RollPlanner> call) {}

    private static final List<Change> LATER = List.of(
            new Change("nothing more", x -> { }),
            new Change("ask(0, 5)", x -> x.ask(0, 5)),
            new Change("ask(3, 2)", x -> x.ask(3, 2)),
            new Change("drop()", x -> x.drop()),
            new Change("kind(1, 3)", x -> x.kind(1, 3)),
            new Change("drop(), kind(1, 4)", x -> {
                x.drop();
                x.kind(1, 4);
            }),
            new Change("begin(9), kind(4, 3)", x -> {
                x.begin(9);
                x.kind(4, 3);
            }));

    private final Checks checks;
    private final Document document;

    RefusalEdges(Checks checks, Document document) {
        this.checks = checks;
        this.document = document;
    }

    void run() {
        document.quote("Terms", "A call that is refused changes nothing.");
        for (int[] job : JOBS) {
            List<Refusal> refusals = refusals(job);
            for (Change later : LATER) {
                eachAlone(job, refusals, later, false);
                eachAlone(job, refusals, later, true);
                allInARow(job, refusals, later);
            }
        }
    }

    private static RollPlanner made(int[] job) {
        return job == JOBS[0] ? new RollPlanner() : Jobs.ofRow(job);
    }

    /** What was looked at before might be kept, and be kept wrongly; so it is tried both ways. */
    private void eachAlone(int[] job, List<Refusal> refusals, Change later, boolean lookedAt) {
        List<String> due = answers(job, null, later, lookedAt);
        for (Refusal refusal : refusals) {
            List<String> got = answers(job, refusal, later, lookedAt);
            String what = Jobs.name(job) + ", then " + refusal.name + ", then " + later.name;
            checks.same(what, firstThatDiffers(got, due), "as without it");
        }
    }

    private List<String> answers(int[] job, Refusal refusal, Change later, boolean lookedAt) {
        RollPlanner x = made(job);
        if (lookedAt) {
            Jobs.everything(x);
        }
        if (refusal != null) {
            checks.same(Jobs.name(job) + ", " + refusal.name, refusal.call.applyAsInt(x), refusal.due);
        }
        later.call.accept(x);
        return Jobs.everything(x);
    }

    private void allInARow(int[] job, List<Refusal> refusals, Change later) {
        RollPlanner x = made(job);
        for (Refusal refusal : refusals) {
            refusal.call.applyAsInt(x);
        }
        later.call.accept(x);
        List<String> due = answers(job, null, later, false);
        String what = Jobs.name(job) + ", then all that is refused, then " + later.name;
        checks.same(what, firstThatDiffers(Jobs.everything(x), due), "as without it");
    }

    private static String firstThatDiffers(List<String> got, List<String> due) {
        for (int n = 0; n < Math.min(got.size(), due.size()); n++) {
            if (!got.get(n).equals(due.get(n))) {
                return got.get(n) + ", not " + due.get(n) + ",";
            }
        }
        return got.size() == due.size() ? "as without it" : "more or fewer rolls";
    }

    private static List<Refusal> refusals(int[] job) {
        List<Refusal> found = new ArrayList<>();
        int kinds = job.length / 2;
        refusedChanges(found, job[0], kinds);
        refusedQuestions(found, kinds);
        refusedPatterns(found, job, kinds);
        refusedPrices(found);
        return found;
    }

    private static void refusedChanges(List<Refusal> found, int width, int kinds) {
        for (int wrong : Numbers.off(1, 60)) {
            found.add(new Refusal("begin(" + wrong + ")", x -> x.begin(wrong) ? 1 : 0, 0));
        }
        for (int wrong : Numbers.off(1, width)) {
            found.add(new Refusal("kind(" + wrong + ", 6)", x -> x.kind(wrong, 6), -1));
        }
        for (int wrong : Numbers.off(0, 6)) {
            found.add(new Refusal("kind(1, " + wrong + ")", x -> x.kind(1, wrong), -1));
            found.add(new Refusal("ask(0, " + wrong + ")", x -> x.ask(0, wrong) ? 1 : 0, 0));
            int last = kinds - 1;
            found.add(new Refusal("ask(" + last + ", " + wrong + ")", x -> x.ask(last, wrong) ? 1 : 0, 0));
        }
        for (int wrong : Numbers.off(0, kinds - 1)) {
            found.add(new Refusal("ask(" + wrong + ", 1)", x -> x.ask(wrong, 1) ? 1 : 0, 0));
        }
        if (kinds == 4) {
            found.add(new Refusal("kind(1, 1)", x -> x.kind(1, 1), -1));
            found.add(new Refusal("kind(" + width + ", 6)", x -> x.kind(width, 6), -1));
        }
        if (kinds == 0) {
            found.add(new Refusal("drop()", x -> x.drop(), -1));
        }
    }

    private static void refusedQuestions(List<Refusal> found, int kinds) {
        for (int wrong : Numbers.beside(0, 1)) {
            found.add(new Refusal("of(" + wrong + ")", x -> x.of(wrong), -1));
            found.add(new Refusal("ofKind(0, " + wrong + ")", x -> x.ofKind(0, wrong), -1));
        }
        for (int wrong : Numbers.beside(0, kinds - 1)) {
            found.add(new Refusal("ofKind(" + wrong + ", 1)", x -> x.ofKind(wrong, 1), -1));
            found.add(new Refusal("cut(0, " + wrong + ")", x -> x.cut(0, wrong), -1));
        }
        found.add(new Refusal("cut(-1, 0)", x -> x.cut(-1, 0), -1));
        found.add(new Refusal("cut(rolls(), 0)", x -> x.cut(x.rolls(), 0), -1));
    }

    private static void refusedPatterns(List<Refusal> found, int[] job, int kinds) {
        for (int k = 0; k < 4; k++) {
            int demand = k < kinds ? job[2 + 2 * k] : 0;
            for (int wrong : Numbers.beside(0, demand)) {
                int[] a = new int[4];
                a[k] = wrong;
                String name = "with(" + a[0] + ", " + a[1] + ", " + a[2] + ", " + a[3] + ")";
                found.add(new Refusal(name, x -> x.with(a[0], a[1], a[2], a[3]), -1));
            }
        }
    }

    private static void refusedPrices(List<Refusal> found) {
        for (int k = 0; k < 4; k++) {
            for (int wrong : Numbers.beside(0, 1000000)) {
                int[] p = {9, 9, 9, 9};
                p[k] = wrong;
                String name = "price(" + p[0] + ", " + p[1] + ", " + p[2] + ", " + p[3] + ")";
                found.add(new Refusal(name, x -> x.price(p[0], p[1], p[2], p[3]), -1));
            }
        }
    }
}
