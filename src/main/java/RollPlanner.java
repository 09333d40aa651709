import java.util.Arrays;

/**
 * Rolls of one width are cut into pieces of some widths: the fewest rolls for what is asked for, a
 * plan for them, and the exact value below which no mixture of patterns can go.
 */
public final class RollPlanner {
    public static final int NONE = -1;

    private static final int MOST_WIDTH = 60;
    private static final int MOST_KINDS = 4;
    private static final int MOST_DEMAND = 6;
    private static final int MOST_PRICE = 1000000;

    /** Every piece that can be asked for on a roll of its own. */
    private static final int MOST_ROLLS = 24;

    /**
     * Four counts, each 0 .. 6, are written as one number, their code: what one piece of each kind
     * adds to it, and at last how many codes there are.
     */
    private static final int[] STEP = {1, 7, 49, 343, 2401};

    private final Job job;
    private final Reach reach;
    private final Plan plan;
    private final Knapsack knapsack;
    private final Floor floor;

    public RollPlanner() {
        job = new Job();
        reach = new Reach(job);
        plan = new Plan(job, reach);
        knapsack = new Knapsack(job);
        floor = new Floor(job, knapsack);
    }

    public boolean begin(int width) {
        if (width < 1 || width > MOST_WIDTH) {
            return false;
        }
        job.clear(width);
        plan.forget();
        return true;
    }

    public int kind(int width, int demand) {
        if (job.kinds >= MOST_KINDS || width < 1 || width > job.rollWidth || !isDemand(demand)) {
            return NONE;
        }
        int added = job.add(width, demand);
        reach.extendTo(added);
        plan.forget();
        return added;
    }

    public boolean ask(int kind, int demand) {
        if (!job.has(kind) || !isDemand(demand)) {
            return false;
        }
        job.demand[kind] = demand;
        plan.forget();
        return true;
    }

    public int drop() {
        if (job.kinds == 0) {
            return NONE;
        }
        job.removeLast();
        plan.forget();
        return job.kinds;
    }

    public int of(int what) {
        if (what == 0) {
            return job.rollWidth;
        }
        return what == 1 ? job.kinds : NONE;
    }

    public int ofKind(int kind, int what) {
        if (!job.has(kind)) {
            return NONE;
        }
        if (what == 0) {
            return job.width[kind];
        }
        return what == 1 ? job.demand[kind] : NONE;
    }

    public int rolls() {
        return reach.fewest(codeOf(job.demand));
    }

    public int cut(int i, int kind) {
        if (!job.has(kind) || i < 0 || i >= rolls()) {
            return NONE;
        }
        return plan.pieces(i, kind);
    }

    public int with(int a0, int a1, int a2, int a3) {
        // The counts come first: only small ones may be multiplied.
        if (!job.asksFor(0, a0) || !job.asksFor(1, a1) || !job.asksFor(2, a2) || !job.asksFor(3, a3)) {
            return NONE;
        }
        int[] width = job.width;
        if (a0 * width[0] + a1 * width[1] + a2 * width[2] + a3 * width[3] > job.rollWidth) {
            return NONE;
        }
        int pattern = a0 * STEP[0] + a1 * STEP[1] + a2 * STEP[2] + a3 * STEP[3];
        return 1 + reach.fewest(codeOf(job.demand) - pattern);
    }

    public long floorTop() {
        floor.find();
        return floor.top;
    }

    public long floorBottom() {
        floor.find();
        return floor.bottom;
    }

    public int price(int p0, int p1, int p2, int p3) {
        if (!isPrice(p0) || !isPrice(p1) || !isPrice(p2) || !isPrice(p3)) {
            return NONE;
        }
        knapsack.worth[0] = p0;
        knapsack.worth[1] = p1;
        knapsack.worth[2] = p2;
        knapsack.worth[3] = p3;
        return (int) knapsack.greatest();
    }

    private static boolean isDemand(int demand) {
        return demand >= 0 && demand <= MOST_DEMAND;
    }

    private static boolean isPrice(int price) {
        return price >= 0 && price <= MOST_PRICE;
    }

    private static int codeOf(int[] counts) {
        int code = 0;
        for (int k = 0; k < MOST_KINDS; k++) {
            code += counts[k] * STEP[k];
        }
        return code;
    }

    /** What is to be cut. Of kinds that there are not nothing is asked for. */
    private static final class Job {
        int rollWidth = 1;
        int kinds = 0;
        final int[] width = new int[MOST_KINDS];
        final int[] demand = new int[MOST_KINDS];

        boolean has(int kind) {
            return kind >= 0 && kind < kinds;
        }

        boolean asksFor(int kind, int pieces) {
            return pieces >= 0 && pieces <= demand[kind];
        }

        void clear(int newRollWidth) {
            rollWidth = newRollWidth;
            kinds = 0;
            Arrays.fill(demand, 0);
        }

        int add(int newWidth, int newDemand) {
            width[kinds] = newWidth;
            demand[kinds] = newDemand;
            kinds++;
            return kinds - 1;
        }

        void removeLast() {
            kinds--;
            demand[kinds] = 0;
        }
    }

    /**
     * Rolls laid end to end, filled one after the other, no piece across a border: how far the
     * pieces of each code reach at the least.
     *
     * <p>To reach less far is to need fewer rolls, or as many with less on the last one. So the
     * least reach of some pieces comes from the least reach of all but one of them, whichever
     * stands last: more rolls, or more on the last one, can never help the piece to come.
     */
    private static final class Reach {
        private final Job job;
        private final int[] least = new int[STEP[MOST_KINDS]];

        Reach(Job job) {
            this.job = job;
        }

        int fewest(int code) {
            return (least[code] + job.rollWidth - 1) / job.rollWidth;
        }

        /** The codes without the newest kind stay as they are: nothing about them has changed. */
        void extendTo(int newest) {
            for (int code = STEP[newest]; code < STEP[newest + 1]; code++) {
                least[code] = leastOf(code, newest);
            }
        }

        private int leastOf(int code, int newest) {
            int found = MOST_ROLLS * MOST_WIDTH;
            for (int k = 0; k <= newest; k++) {
                if (code / STEP[k] % (MOST_DEMAND + 1) > 0) {
                    found = Math.min(found, placed(least[code - STEP[k]], job.width[k]));
                }
            }
            return found;
        }

        private int placed(int reached, int width) {
            int onLastRoll = reached % job.rollWidth;
            if (onLastRoll + width > job.rollWidth) {
                return reached - onLastRoll + job.rollWidth + width;
            }
            return reached + width;
        }
    }

    /** The best plan, made when it is first looked at after a change. */
    private static final class Plan {
        private final Job job;
        private final Reach reach;
        private final int[] cuts = new int[MOST_ROLLS * MOST_KINDS];
        private final int[] rest = new int[MOST_KINDS];
        private final int[] pattern = new int[MOST_KINDS];
        private boolean stands = false;

        Plan(Job job, Reach reach) {
            this.job = job;
            this.reach = reach;
        }

        void forget() {
            stands = false;
        }

        int pieces(int i, int kind) {
            if (!stands) {
                make();
            }
            return cuts[i * MOST_KINDS + kind];
        }

        /**
         * Each roll gets the first pattern in ORDER that leaves a rest for one roll less. The search
         * goes on from the pattern of the roll before: one that stands ahead of it and would do now
         * would have done there too.
         */
        private void make() {
            System.arraycopy(job.demand, 0, rest, 0, MOST_KINDS);
            Arrays.fill(pattern, 0);
            fillFrom(0);
            int rolls = reach.fewest(codeOf(rest));
            for (int i = 0; i < rolls; i++) {
                for (int n = 0; n < STEP[MOST_KINDS] && !savesARoll(); n++) {
                    stepOn();
                }
                take(i);
            }
            stands = true;
        }

        private boolean savesARoll() {
            for (int k = 0; k < MOST_KINDS; k++) {
                if (pattern[k] > rest[k]) {
                    return false;
                }
            }
            int whole = codeOf(rest);
            return reach.fewest(whole - codeOf(pattern)) < reach.fewest(whole);
        }

        private void take(int i) {
            for (int k = 0; k < MOST_KINDS; k++) {
                cuts[i * MOST_KINDS + k] = pattern[k];
                rest[k] -= pattern[k];
            }
        }

        /** To the next pattern in ORDER, but for those that have more than the rest. */
        private void stepOn() {
            for (int k = MOST_KINDS - 1; k >= 0; k--) {
                if (pattern[k] > 0) {
                    pattern[k]--;
                    fillFrom(k + 1);
                    return;
                }
            }
        }

        private void fillFrom(int first) {
            int room = job.rollWidth;
            for (int k = 0; k < job.kinds; k++) {
                if (k >= first) {
                    pattern[k] = Math.min(rest[k], room / job.width[k]);
                }
                room -= pattern[k] * job.width[k];
            }
        }
    }

    /** The pattern that is worth most, when a piece of each kind is worth something. */
    private static final class Knapsack {
        final long[] worth = new long[MOST_KINDS];
        private final Job job;
        private final long[] best = new long[MOST_WIDTH + 1];
        private final int[] piece = new int[MOST_WIDTH + 1];

        Knapsack(Job job) {
            this.job = job;
        }

        long greatest() {
            for (int room = 1; room <= job.rollWidth; room++) {
                fill(room);
            }
            return best[job.rollWidth];
        }

        private void fill(int room) {
            best[room] = best[room - 1];
            piece[room] = NONE;
            for (int k = 0; k < job.kinds; k++) {
                int left = room - job.width[k];
                if (left >= 0 && best[left] + worth[k] > best[room]) {
                    best[room] = best[left] + worth[k];
                    piece[room] = k;
                }
            }
        }

        /** The pattern that greatest() found. */
        void copyPattern(int[] into) {
            Arrays.fill(into, 0);
            int room = job.rollWidth;
            for (int n = 0; n < MOST_WIDTH && room > 0; n++) {
                int k = piece[room];
                if (k == NONE) {
                    room--;
                } else {
                    into[k]++;
                    room -= job.width[k];
                }
            }
        }
    }

    /**
     * The floor, by the simplex method over a basis of as many patterns as there are kinds. All is
     * kept in whole numbers, each as many times the true one as the basis' determinant says: they
     * are determinants too, of patterns of at most 60 pieces, so a product of two fits a long.
     */
    private static final class Floor {
        /** Exchanges that would be too many by far: the method ends by itself, see rowToLeave(). */
        private static final int MOST_EXCHANGES = 1000000;

        /** The longest gcd of two longs takes fewer divisions. */
        private static final int MOST_DIVISIONS = 100;

        long top = 0;
        long bottom = 1;
        private final Job job;
        private final Knapsack knapsack;

        /** In row i first the number that pattern i of the basis has, then row i of the inverse. */
        private final long[][] row = new long[MOST_KINDS][MOST_KINDS + 1];
        private long determinant = 1;
        private final int[] entering = new int[MOST_KINDS];

        /** How much of each pattern of the basis one entering pattern stands for. */
        private final long[] share = new long[MOST_KINDS];

        Floor(Job job, Knapsack knapsack) {
            this.job = job;
            this.knapsack = knapsack;
        }

        void find() {
            start();
            for (int n = 0; n < MOST_EXCHANGES && findCheaper(); n++) {
                int leaving = rowToLeave();
                if (leaving == NONE) {
                    break;
                }
                exchange(leaving);
            }
            reduce();
        }

        /** The first basis has for each kind the pattern full of it alone. */
        private void start() {
            determinant = 1;
            for (int k = 0; k < job.kinds; k++) {
                determinant *= job.rollWidth / job.width[k];
            }
            for (int k = 0; k < job.kinds; k++) {
                Arrays.fill(row[k], 0);
                row[k][k + 1] = determinant / (job.rollWidth / job.width[k]);
                row[k][0] = job.demand[k] * row[k][k + 1];
            }
        }

        /** Looks for a pattern that costs less than what the basis would do in its stead. */
        private boolean findCheaper() {
            for (int k = 0; k < job.kinds; k++) {
                knapsack.worth[k] = columnSum(k + 1);
            }
            if (knapsack.greatest() <= determinant) {
                return false;
            }
            knapsack.copyPattern(entering);
            for (int i = 0; i < job.kinds; i++) {
                share[i] = 0;
                for (int k = 0; k < job.kinds; k++) {
                    share[i] += row[i][k + 1] * entering[k];
                }
            }
            return true;
        }

        private long columnSum(int column) {
            long sum = 0;
            for (int i = 0; i < job.kinds; i++) {
                sum += row[i][column];
            }
            return sum;
        }

        /**
         * The row that is used up first. Rows that are used up at once are told apart by the rest of
         * them: then no basis comes twice, which would else be possible.
         */
        private int rowToLeave() {
            int first = NONE;
            for (int i = 0; i < job.kinds; i++) {
                if (share[i] > 0 && (first == NONE || usedUpBefore(i, first))) {
                    first = i;
                }
            }
            return first;
        }

        private boolean usedUpBefore(int i, int other) {
            for (int column = 0; column <= job.kinds; column++) {
                long mine = row[i][column] * share[other];
                long others = row[other][column] * share[i];
                if (mine != others) {
                    return mine < others;
                }
            }
            return false;
        }

        private void exchange(int leaving) {
            long pivot = share[leaving];
            for (int i = 0; i < job.kinds; i++) {
                if (i != leaving) {
                    for (int column = 0; column <= job.kinds; column++) {
                        long scaled = pivot * row[i][column] - share[i] * row[leaving][column];
                        row[i][column] = scaled / determinant;
                    }
                }
            }
            determinant = pivot;
        }

        private void reduce() {
            long cost = columnSum(0);
            long divisor = greatestCommonDivisor(cost, determinant);
            top = cost / divisor;
            bottom = determinant / divisor;
        }

        /** Above 0, as the second number is. */
        private static long greatestCommonDivisor(long first, long second) {
            long a = first;
            long b = second;
            for (int n = 0; n < MOST_DIVISIONS && a != 0; n++) {
                long remainder = b % a;
                b = a;
                a = remainder;
            }
            return b;
        }
    }
}
