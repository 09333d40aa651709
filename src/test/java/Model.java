import java.math.BigInteger;
import java.util.ArrayList;
import java.util.HashMap;
import java.util.List;
import java.util.Map;

/** The document's words taken one by one, with no thought of speed: what the program is held against. */
final class Model {
    private int width = 1;
    private final List<int[]> kinds = new ArrayList<>();
    private Map<Integer, Integer> fewest = new HashMap<>();
    private List<int[]> plan = null;
    private Fraction floor = null;

    boolean begin(int newWidth) {
        if (newWidth < 1 || newWidth > 60) {
            return false;
        }
        width = newWidth;
        kinds.clear();
        forgetAll();
        return true;
    }

    int kind(int pieceWidth, int demand) {
        if (kinds.size() == 4 || pieceWidth < 1 || pieceWidth > width || demand < 0 || demand > 6) {
            return -1;
        }
        kinds.add(new int[] {pieceWidth, demand});
        forgetAll();
        return kinds.size() - 1;
    }

    boolean ask(int kind, int demand) {
        if (!has(kind) || demand < 0 || demand > 6) {
            return false;
        }
        kinds.get(kind)[1] = demand;
        plan = null;
        floor = null;
        // The patterns that fewest() goes through are those within the demand.
        fewest = new HashMap<>();
        return true;
    }

    int drop() {
        if (kinds.isEmpty()) {
            return -1;
        }
        kinds.remove(kinds.size() - 1);
        forgetAll();
        return kinds.size();
    }

    int of(int what) {
        return what == 0 ? width : what == 1 ? kinds.size() : -1;
    }

    int ofKind(int kind, int what) {
        return has(kind) && (what == 0 || what == 1) ? kinds.get(kind)[what] : -1;
    }

    int rolls() {
        return bestPlan().size();
    }

    int cut(int i, int kind) {
        return has(kind) && i >= 0 && i < rolls() ? bestPlan().get(i)[kind] : -1;
    }

    int with(int a0, int a1, int a2, int a3) {
        int[] pattern = {a0, a1, a2, a3};
        long length = 0;
        for (int k = 0; k < 4; k++) {
            if (pattern[k] < 0 || pattern[k] > demandOf(k)) {
                return -1;
            }
            length += (long) pattern[k] * widthOf(k);
        }
        return length > width ? -1 : 1 + fewestFor(minus(demands(), pattern), patterns(true));
    }

    long floorTop() {
        return floor().top.longValueExact();
    }

    long floorBottom() {
        return floor().bottom.longValueExact();
    }

    int price(int... prices) {
        long best = 0;
        for (int price : prices) {
            if (price < 0 || price > 1000000) {
                return -1;
            }
        }
        for (int[] pattern : patterns(false)) {
            long sum = 0;
            for (int k = 0; k < kinds.size(); k++) {
                sum += (long) prices[k] * pattern[k];
            }
            best = Math.max(best, sum);
        }
        return Math.toIntExact(best);
    }

    private void forgetAll() {
        fewest = new HashMap<>();
        plan = null;
        floor = null;
    }

    private boolean has(int kind) {
        return kind >= 0 && kind < kinds.size();
    }

    private int widthOf(int kind) {
        return has(kind) ? kinds.get(kind)[0] : 0;
    }

    private int demandOf(int kind) {
        return has(kind) ? kinds.get(kind)[1] : 0;
    }

    private int[] demands() {
        return new int[] {demandOf(0), demandOf(1), demandOf(2), demandOf(3)};
    }

    /** All patterns in ORDER: those with no more of a kind than is asked for, or any. */
    private List<int[]> patterns(boolean withinDemand) {
        List<int[]> found = new ArrayList<>();
        addPatterns(found, new int[4], 0, width, withinDemand);
        return found;
    }

    private void addPatterns(List<int[]> found, int[] pattern, int kind, int room, boolean withinDemand) {
        if (kind == kinds.size()) {
            found.add(pattern.clone());
            return;
        }
        int most = room / widthOf(kind);
        for (int a = withinDemand ? Math.min(most, demandOf(kind)) : most; a >= 0; a--) {
            pattern[kind] = a;
            addPatterns(found, pattern, kind + 1, room - a * widthOf(kind), withinDemand);
        }
        pattern[kind] = 0;
    }

    private int fewestFor(int[] counts, List<int[]> patterns) {
        int key = counts[0] + 10 * counts[1] + 100 * counts[2] + 1000 * counts[3];
        if (key == 0) {
            return 0;
        }
        Integer known = fewest.get(key);
        if (known != null) {
            return known;
        }
        int best = 24;
        for (int[] pattern : patterns) {
            if (!isEmpty(pattern) && isWithin(pattern, counts)) {
                best = Math.min(best, 1 + fewestFor(minus(counts, pattern), patterns));
            }
        }
        fewest.put(key, best);
        return best;
    }

    private List<int[]> bestPlan() {
        if (plan == null) {
            List<int[]> patterns = patterns(true);
            plan = new ArrayList<>();
            if (!complete(demands(), fewestFor(demands(), patterns), 0, patterns)) {
                throw new IllegalStateException("the model finds no plan");
            }
        }
        return plan;
    }

    /** Goes through the plans with so many patterns more, none ahead of the given one, in their order. */
    private boolean complete(int[] rest, int more, int from, List<int[]> patterns) {
        if (more == 0) {
            return isEmpty(rest);
        }
        for (int p = from; p < patterns.size(); p++) {
            int[] pattern = patterns.get(p);
            if (isWithin(pattern, rest) && fewestFor(minus(rest, pattern), patterns) <= more - 1) {
                plan.add(pattern);
                if (complete(minus(rest, pattern), more - 1, p, patterns)) {
                    return true;
                }
                plan.remove(plan.size() - 1);
            }
        }
        return false;
    }

    private static boolean isEmpty(int[] counts) {
        return counts[0] + counts[1] + counts[2] + counts[3] == 0;
    }

    private static boolean isWithin(int[] pattern, int[] counts) {
        for (int k = 0; k < 4; k++) {
            if (pattern[k] > counts[k]) {
                return false;
            }
        }
        return true;
    }

    private static int[] minus(int[] counts, int[] pattern) {
        int[] rest = counts.clone();
        for (int k = 0; k < 4; k++) {
            rest[k] -= pattern[k];
        }
        return rest;
    }

    private Fraction floor() {
        if (floor == null) {
            floor = new WorthTable(fullPatterns(), demands(), kinds.size()).most();
        }
        return floor;
    }

    /** The patterns with no room for a piece more: what is worth at most 1 with them is so with all. */
    private List<int[]> fullPatterns() {
        List<int[]> full = new ArrayList<>();
        for (int[] pattern : patterns(false)) {
            int room = width;
            int narrowest = 61;
            for (int k = 0; k < kinds.size(); k++) {
                room -= pattern[k] * widthOf(k);
                narrowest = Math.min(narrowest, widthOf(k));
            }
            if (room < narrowest) {
                full.add(pattern);
            }
        }
        return full;
    }

    /**
     * The floor from its other side: the most that the demand can be worth, when pieces are given a
     * worth from 0 on and no pattern may be worth more than 1. It has a row for each full pattern and
     * goes from corner to corner by Bland's rule, so it shares no step with the program's own way.
     */
    private static final class WorthTable {
        private final Fraction[][] cell;
        private final int[] rowName;
        private final int[] columnName;
        private final int rows;
        private final int columns;

        /** The last row is the worth of the demand, the last column how much each row still may grow. */
        WorthTable(List<int[]> patterns, int[] demand, int kinds) {
            rows = patterns.size();
            columns = kinds;
            cell = new Fraction[rows + 1][columns + 1];
            rowName = new int[rows];
            columnName = new int[columns];
            for (int r = 0; r < rows; r++) {
                rowName[r] = columns + r;
                fillRow(r, patterns.get(r), 1);
            }
            for (int c = 0; c < columns; c++) {
                columnName[c] = c;
            }
            fillRow(rows, demand, 0);
        }

        private void fillRow(int r, int[] counts, int last) {
            for (int c = 0; c < columns; c++) {
                cell[r][c] = Fraction.of(counts[c]);
            }
            cell[r][columns] = Fraction.of(last);
        }

        Fraction most() {
            for (int column = entering(); column >= 0; column = entering()) {
                exchange(leaving(column), column);
            }
            return cell[rows][columns].negated();
        }

        private int entering() {
            int found = -1;
            for (int c = 0; c < columns; c++) {
                if (cell[rows][c].sign() > 0 && (found < 0 || columnName[c] < columnName[found])) {
                    found = c;
                }
            }
            return found;
        }

        private int leaving(int column) {
            int found = -1;
            Fraction least = null;
            for (int r = 0; r < rows; r++) {
                if (cell[r][column].sign() > 0) {
                    Fraction ratio = cell[r][columns].over(cell[r][column]);
                    int order = least == null ? -1 : ratio.minus(least).sign();
                    if (order < 0 || order == 0 && rowName[r] < rowName[found]) {
                        found = r;
                        least = ratio;
                    }
                }
            }
            return found;
        }

        private void exchange(int row, int column) {
            Fraction pivot = cell[row][column];
            for (int r = 0; r <= rows; r++) {
                Fraction factor = cell[r][column].over(pivot);
                if (r != row && factor.sign() != 0) {
                    for (int c = 0; c <= columns; c++) {
                        cell[r][c] = c == column ? factor.negated() : cell[r][c].minus(factor.times(cell[row][c]));
                    }
                }
            }
            for (int c = 0; c <= columns; c++) {
                cell[row][c] = c == column ? Fraction.of(1).over(pivot) : cell[row][c].over(pivot);
            }
            int name = rowName[row];
            rowName[row] = columnName[column];
            columnName[column] = name;
        }
    }

    /** Any fraction, in lowest terms, the denominator above 0. */
    private static final class Fraction {
        final BigInteger top;
        final BigInteger bottom;

        private Fraction(BigInteger top, BigInteger bottom) {
            BigInteger divisor = top.gcd(bottom);
            BigInteger signed = bottom.signum() < 0 ? divisor.negate() : divisor;
            this.top = top.divide(signed);
            this.bottom = bottom.divide(signed);
        }

        static Fraction of(long whole) {
            return new Fraction(BigInteger.valueOf(whole), BigInteger.ONE);
        }

        int sign() {
            return top.signum();
        }

        Fraction negated() {
            return new Fraction(top.negate(), bottom);
        }

        Fraction minus(Fraction other) {
            return new Fraction(top.multiply(other.bottom).subtract(other.top.multiply(bottom)), bottom.multiply(other.bottom));
        }

        Fraction times(Fraction other) {
            return new Fraction(top.multiply(other.top), bottom.multiply(other.bottom));
        }

        Fraction over(Fraction other) {
            return new Fraction(top.multiply(other.bottom), bottom.multiply(other.top));
        }
    }
}
