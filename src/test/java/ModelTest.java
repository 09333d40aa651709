import java.util.Random;

/** Long runs of calls, the same each time, on the program and on the model of the document's words. */
public final class ModelTest {
    /** What an object is good for: a change and a question at a time, so half as many turns. */
    private static final int CALLS = 512;
    private static final int[] ODD = {Integer.MIN_VALUE, -7, -1, 0, 1, 6, 7, 60, 61, 1000000, 1000001, Integer.MAX_VALUE};

    private final Checks checks = new Checks();
    private Random random;
    private RollPlanner program;
    private Model model;
    private String run;

    public static void main(String[] args) {
        ModelTest test = new ModelTest();
        for (int seed = 1; seed <= 40; seed++) {
            test.runOfCalls(seed);
        }
        for (int seed = 1; seed <= 400; seed++) {
            test.wholeJob(seed);
        }
        test.checks.end("ModelTest");
    }

    private void start(String name, int seed) {
        random = new Random(seed);
        program = new RollPlanner();
        model = new Model();
        run = name + " " + seed;
    }

    private void runOfCalls(int seed) {
        start("run", seed);
        for (int n = 0; n < CALLS; n += 2) {
            change();
            question();
        }
    }

    /** Mostly none, so that questions stand behind each other; begin is rare, so that kinds gather. */
    private void change() {
        switch (random.nextInt(12)) {
            case 0 -> {
                if (random.nextInt(6) == 0) {
                    int width = number(1, 60);
                    same("begin(" + width + ")", program.begin(width) ? 1 : 0, model.begin(width) ? 1 : 0);
                }
            }
            case 1, 2 -> {
                int width = number(1, model.of(0));
                int demand = number(0, 6);
                same("kind(" + width + ", " + demand + ")", program.kind(width, demand), model.kind(width, demand));
            }
            case 3, 4 -> {
                int kind = number(0, 3);
                int demand = number(0, 6);
                String call = "ask(" + kind + ", " + demand + ")";
                same(call, program.ask(kind, demand) ? 1 : 0, model.ask(kind, demand) ? 1 : 0);
            }
            case 5 -> {
                if (random.nextInt(3) == 0) {
                    same("drop()", program.drop(), model.drop());
                }
            }
            default -> { }
        }
    }

    private void question() {
        int a = number(0, 6);
        int b = number(0, 3);
        int c = number(0, 2);
        int d = number(0, 1);
        switch (random.nextInt(8)) {
            case 0 -> same("of(" + d + ")", program.of(d), model.of(d));
            case 1 -> same("ofKind(" + b + ", " + d + ")", program.ofKind(b, d), model.ofKind(b, d));
            case 2 -> same("rolls()", program.rolls(), model.rolls());
            case 3 -> same("cut(" + a + ", " + b + ")", program.cut(a, b), model.cut(a, b));
            case 4 -> withLike(c, d, number(0, 1), number(0, 2));
            case 5 -> same("floorTop()", program.floorTop(), model.floorTop());
            case 6 -> same("floorBottom()", program.floorBottom(), model.floorBottom());
            default -> priceLike(number(0, 1000000), number(0, 60), number(0, 1000000), number(0, 9));
        }
    }

    private void wholeJob(int seed) {
        start("job", seed);
        int width = 1 + random.nextInt(60);
        program.begin(width);
        model.begin(width);
        // A small share of the width makes for full patterns, a large one for many rolls.
        int widest = Math.max(1, width / (1 + random.nextInt(4)));
        for (int k = 1 + random.nextInt(4); k > 0; k--) {
            int piece = 1 + random.nextInt(widest);
            int demand = random.nextInt(7);
            same("kind(" + piece + ", " + demand + ")", program.kind(piece, demand), model.kind(piece, demand));
        }
        planAndFloor();
        for (int n = 0; n < 20; n++) {
            withLike(random.nextInt(3), random.nextInt(3), random.nextInt(3), random.nextInt(3));
        }
        priceLike(random.nextInt(100), random.nextInt(100), random.nextInt(100), random.nextInt(100));
        int demand = random.nextInt(7);
        same("ask(0, " + demand + ")", program.ask(0, demand) ? 1 : 0, model.ask(0, demand) ? 1 : 0);
        planAndFloor();
        same("drop()", program.drop(), model.drop());
        planAndFloor();
    }

    private void planAndFloor() {
        same("rolls()", program.rolls(), model.rolls());
        for (int i = 0; i <= model.rolls(); i++) {
            for (int k = 0; k <= model.of(1); k++) {
                same("cut(" + i + ", " + k + ")", program.cut(i, k), model.cut(i, k));
            }
        }
        same("floorTop()", program.floorTop(), model.floorTop());
        same("floorBottom()", program.floorBottom(), model.floorBottom());
    }

    private void withLike(int a0, int a1, int a2, int a3) {
        String call = "with(" + a0 + ", " + a1 + ", " + a2 + ", " + a3 + ")";
        same(call, program.with(a0, a1, a2, a3), model.with(a0, a1, a2, a3));
    }

    private void priceLike(int p0, int p1, int p2, int p3) {
        String call = "price(" + p0 + ", " + p1 + ", " + p2 + ", " + p3 + ")";
        same(call, program.price(p0, p1, p2, p3), model.price(p0, p1, p2, p3));
    }

    private int number(int least, int most) {
        return random.nextInt(15) == 0 ? ODD[random.nextInt(ODD.length)] : least + random.nextInt(most - least + 1);
    }

    private void same(String call, long got, long due) {
        checks.same(run + ": " + call, got, due);
    }
}
