import java.util.ArrayList;
import java.util.Arrays;
import java.util.List;

/** The document's first sentence and its last section: what the class is for, and what it is not. */
final class WholeEdges {
    private static final int[][] JOBS = {
        {1},
        {1, 1, 6, 1, 6, 1, 6, 1, 6},
        {10, 7, 2, 5, 3, 3, 4},
        {10, 4, 3, 6, 2},
        {11, 4, 5, 5, 5, 6, 5, 7, 5},
        {60, 13, 6, 17, 6, 22, 6, 29, 6},
        {60, 1, 6, 2, 6, 3, 6, 4, 6},
        {60, 60, 6, 59, 0, 31, 6, 30, 5}
    };

    /** Prices of 0 to this for each kind are enough to show that the floors of JOBS are reached. */
    private static final int HIGHEST_PRICE = 6;

    /** An object is good for 512 calls, and some go before. */
    private static final int PRICES_PER_OBJECT = 400;

    private final Checks checks;
    private final Document document;

    WholeEdges(Checks checks, Document document) {
        this.checks = checks;
        this.document = document;
    }

    void run() throws InterruptedException {
        document.quote("What it is", "Rolls of one width are cut into pieces of some widths: the fewest rolls for what is asked for");
        for (int[] job : JOBS) {
            noPatternSavesARoll(job);
        }
        document.quote("What it is", "a plan for them");
        for (int[] job : JOBS) {
            planOfTheFewest(job);
        }
        document.quote("What it is", "and the exact value below which no mixture of patterns can go.");
        for (int[] job : JOBS) {
            floorIsExact(job);
        }
        stateAndSpeedAreFree();
        threadsOfTheirOwn();
        nothingBeyond();
    }

    /** Every plan has a pattern: so none is shorter, if none of its patterns makes a shorter one. */
    private void noPatternSavesARoll(int[] job) {
        int rolls = Jobs.ofRow(job).rolls();
        int[] a = new int[4];
        for (a[0] = 0; a[0] <= 6; a[0]++) {
            RollPlanner x = Jobs.ofRow(job);
            for (a[1] = 0; a[1] <= 6; a[1]++) {
                for (a[2] = 0; a[2] <= 6; a[2]++) {
                    for (a[3] = 0; a[3] <= 6; a[3]++) {
                        int got = x.with(a[0], a[1], a[2], a[3]);
                        checks.holds(Jobs.name(job) + ", with" + Arrays.toString(a), got == -1 || got >= rolls);
                    }
                }
            }
        }
    }

    private void planOfTheFewest(int[] job) {
        RollPlanner x = Jobs.ofRow(job);
        int rolls = x.rolls();
        for (int i = 0; i < rolls; i++) {
            int[] a = new int[4];
            for (int k = 0; k < job.length / 2; k++) {
                a[k] = x.cut(i, k);
            }
            checks.same(Jobs.name(job) + ", with its roll " + i, x.with(a[0], a[1], a[2], a[3]), rolls);
        }
        checks.same(Jobs.name(job) + ", kind 0 behind its last roll", x.cut(rolls, 0), -1);
    }

    /**
     * If no pattern is worth more than v, a mixture of cost c is worth c times v at most, and it is worth
     * what all the pieces are that are asked for. So no prices may show a cost above the floor, and some
     * show the floor itself.
     */
    private void floorIsExact(int[] job) {
        RollPlanner x = Jobs.ofRow(job);
        long top = x.floorTop();
        long bottom = x.floorBottom();
        checks.holds(Jobs.name(job) + ", the best plan is a mixture too", x.rolls() * bottom >= top);
        boolean isReached = top == 0;
        List<int[]> prices = prices(job.length / 2);
        for (int n = 0; n < prices.size(); n++) {
            if (n % PRICES_PER_OBJECT == 0) {
                x = Jobs.ofRow(job);
            }
            int[] p = prices.get(n);
            long most = x.price(p[0], p[1], p[2], p[3]);
            long asked = worthOfTheDemand(job, p);
            checks.holds(Jobs.name(job) + ", the floor against " + Arrays.toString(p), top * most >= bottom * asked);
            isReached |= most > 0 && top * most == bottom * asked;
        }
        checks.holds(Jobs.name(job) + ", the floor is reached", isReached);
    }

    private static List<int[]> prices(int kinds) {
        List<int[]> found = new ArrayList<>();
        found.add(new int[4]);
        for (int k = 0; k < kinds; k++) {
            for (int[] p : List.copyOf(found)) {
                for (int price = 1; price <= HIGHEST_PRICE; price++) {
                    int[] next = p.clone();
                    next[k] = price;
                    found.add(next);
                }
            }
        }
        return found;
    }

    private static long worthOfTheDemand(int[] job, int[] p) {
        long sum = 0;
        for (int k = 0; k < job.length / 2; k++) {
            sum += (long) p[k] * job[2 + 2 * k];
        }
        return sum;
    }

    /** No answer of theirs is due, but they are no changes. */
    private void stateAndSpeedAreFree() {
        document.quote("Not promised", "How the state is held inside the object is free, as are the speed of each call, the text of toString and the behaviour of equals and hashCode.");
        for (int[] job : JOBS) {
            RollPlanner x = Jobs.ofRow(job);
            boolean hasText = x.toString() != null;
            boolean isItself = x.equals(x) && x.hashCode() == x.hashCode();
            checks.holds(Jobs.name(job) + ", toString, equals and hashCode answer", hasText && isItself);
            sameAnswers(Jobs.name(job) + ", after them", x, job);
        }
    }

    /** One object is for one thread; but an object for each thread is not one object. */
    private void threadsOfTheirOwn() throws InterruptedException {
        document.quote("Not promised", "Use of one object from several threads at once is not promised to be safe.");
        Object[] got = new Object[JOBS.length];
        List<Thread> threads = new ArrayList<>();
        for (int n = 0; n < JOBS.length; n++) {
            int which = n;
            threads.add(new Thread(() -> got[which] = Jobs.everything(Jobs.ofRow(JOBS[which]))));
        }
        for (Thread thread : threads) {
            thread.start();
        }
        for (Thread thread : threads) {
            thread.join();
        }
        for (int n = 0; n < JOBS.length; n++) {
            String due = Jobs.everything(Jobs.ofRow(JOBS[n])).toString();
            checks.same(Jobs.name(JOBS[n]) + ", on a thread of its own", String.valueOf(got[n]), due);
        }
    }

    /** Questions are no changes, in whatever order they come. */
    private void nothingBeyond() {
        document.quote("Not promised", "Nothing is promised beyond the answers and state changes described above");
        for (int[] job : JOBS) {
            RollPlanner x = Jobs.ofRow(job);
            Jobs.everything(x);
            sameAnswers(Jobs.name(job) + ", asked once more", x, job);
        }
    }

    private void sameAnswers(String what, RollPlanner x, int[] job) {
        checks.same(what, Jobs.everything(x).toString(), Jobs.everything(Jobs.ofRow(job)).toString());
    }
}
