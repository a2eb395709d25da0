import java.math.BigDecimal;
import java.math.BigInteger;
import java.math.MathContext;
import java.math.RoundingMode;
import java.util.ArrayList;
import java.util.List;

/** The document's words taken one by one, slowly and by other ways than the class: what each call should answer. */
final class SlowModel {
    private static final int LEAST_INT = Integer.MIN_VALUE;
    private static final long LEAST_LONG = Long.MIN_VALUE;
    private static final MathContext DIGITS = new MathContext(60);

    /** A fraction of longs; the denominator is above 0. */
    private record Fraction(long over, long under) {
        static Fraction of(long over, long under) {
            return under < 0 ? new Fraction(-over, -under) : new Fraction(over, under);
        }

        int compare(Fraction other) {
            return Long.compare(Math.multiplyExact(over, other.under), Math.multiplyExact(other.over, under));
        }

        long part(int part) {
            BigInteger common = BigInteger.valueOf(over).gcd(BigInteger.valueOf(under));
            return (part == 0 ? over : under) / common.longValueExact();
        }
    }

    private final List<List<int[]>> functions = new ArrayList<>();
    private final List<Integer> ys = new ArrayList<>();

    SlowModel() {
        for (int place = 0; place < 6; place++) {
            functions.add(zeroPieces(1));
        }
    }

    private static List<int[]> zeroPieces(int n) {
        List<int[]> made = new ArrayList<>();
        for (int i = 0; i < n; i++) {
            made.add(new int[3]);
        }
        return made;
    }

    private static boolean in(int number, int least, int most) {
        return least <= number && number <= most;
    }

    private static boolean isPlace(int place) {
        return in(place, 0, 5);
    }

    int pieces(int place, int n) {
        if (!isPlace(place)) {
            return -2;
        }
        if (!in(n, 1, 16)) {
            return -3;
        }
        functions.set(place, zeroPieces(n));
        return 1;
    }

    int piece(int place, int i, int a, int b, int c) {
        if (!isPlace(place) || !in(i, 0, functions.get(place).size() - 1)) {
            return -2;
        }
        List<int[]> changed = new ArrayList<>(functions.get(place));
        changed.set(i, new int[] {a, b, c});
        return keep(place, changed);
    }

    private int keep(int place, List<int[]> made) {
        for (int[] row : made) {
            for (int number : row) {
                if (!in(number, -100000, 100000)) {
                    return -5;
                }
            }
        }
        functions.set(place, made);
        return 1;
    }

    int of(int place, int i, int what) {
        if (!isPlace(place) || !in(i, 0, functions.get(place).size() - 1) || !in(what, 0, 2)) {
            return LEAST_INT;
        }
        return functions.get(place).get(i)[what];
    }

    long value(int place, int u, int v, int part) {
        if (!isPlace(place) || !in(v, 1, 64) || !in(part, 0, 1)) {
            return LEAST_LONG;
        }
        List<int[]> f = functions.get(place);
        if (u < 0 || (long) u > (long) f.size() * v) {
            return LEAST_LONG;
        }
        int i = 0;
        while (i < f.size() - 1 && (i + 1) * v <= u) {
            i++;
        }
        return at(f.get(i), u - i * v, v).part(part);
    }

    private static Fraction at(int[] row, long u, long v) {
        return Fraction.of(row[0] * v * v + row[1] * u * v + row[2] * u * u, v * v);
    }

    private static int joinOf(List<int[]> f, int knot) {
        int[] left = f.get(knot - 1);
        int[] right = f.get(knot);
        boolean value = left[0] + left[1] + left[2] == right[0];
        boolean slope = left[1] + 2 * left[2] == right[1];
        boolean bend = left[2] == right[2];
        return !value ? -1 : !slope ? 0 : !bend ? 1 : 2;
    }

    int join(int place, int knot) {
        return isPlace(place) && in(knot, 1, functions.get(place).size() - 1) ? joinOf(functions.get(place), knot) : -2;
    }

    /** The values where a piece begins, turns and ends, in the order of x: between them it only rises or falls. */
    private static List<Fraction> turns(List<int[]> f) {
        List<Fraction> found = new ArrayList<>();
        for (int[] row : f) {
            found.add(at(row, 0, 1));
            long over = row[2] > 0 ? -row[1] : row[1];
            long under = 2L * Math.abs(row[2]);
            if (over > 0 && over < under) {
                // a - b b / 4 c
                found.add(Fraction.of(4L * row[0] * row[2] - (long) row[1] * row[1], 4L * row[2]));
            }
            found.add(at(row, 1, 1));
        }
        return found;
    }

    private static boolean hasShape(List<int[]> f, int shape) {
        List<Fraction> order = new ArrayList<>();
        if (shape == 1 || shape == 2) {
            order = turns(f);
        } else if (shape == 3 || shape == 4) {
            for (int i = 0; i < f.size(); i++) {
                if (i > 0 && joinOf(f, i) < 0) {
                    return false;
                }
                order.add(new Fraction(f.get(i)[1], 1));
                order.add(new Fraction(f.get(i)[1] + 2L * f.get(i)[2], 1));
            }
        }
        for (int k = 1; k < order.size(); k++) {
            int step = order.get(k).compare(order.get(k - 1));
            if (shape % 2 == 1 ? step < 0 : step > 0) {
                return false;
            }
        }
        return true;
    }

    int has(int place, int shape) {
        if (!isPlace(place)) {
            return -2;
        }
        if (!in(shape, 1, 4)) {
            return -3;
        }
        return hasShape(functions.get(place), shape) ? 1 : 0;
    }

    int end(int place, int way) {
        if (!isPlace(place) || !in(way, 0, 1)) {
            return LEAST_INT;
        }
        BigDecimal found = null;
        for (Fraction turn : turns(functions.get(place))) {
            RoundingMode mode = way == 0 ? RoundingMode.CEILING : RoundingMode.FLOOR;
            BigDecimal whole = BigDecimal.valueOf(turn.over()).divide(BigDecimal.valueOf(turn.under()), 0, mode);
            found = found == null ? whole : way == 0 ? found.max(whole) : found.min(whole);
        }
        return found.intValueExact();
    }

    /** The boxes of all zeros, by roots of sixty digits; null if a piece is 0 throughout. */
    private static List<Integer> boxesOf(List<long[]> f) {
        List<Integer> boxes = new ArrayList<>();
        for (int i = 0; i < f.size(); i++) {
            long[] row = f.get(i);
            if (row[0] == 0 && row[1] == 0 && row[2] == 0) {
                return null;
            }
            for (BigDecimal root : roots(row[0], row[1], row[2])) {
                boolean before = root.compareTo(BigDecimal.ONE) < 0;
                boolean at = root.compareTo(BigDecimal.ONE) == 0 && i == f.size() - 1;
                if (root.signum() >= 0 && (before || at)) {
                    boxes.add(i * 64 + root.multiply(BigDecimal.valueOf(64)).intValue());
                }
            }
        }
        return boxes;
    }

    private static List<BigDecimal> roots(long a, long b, long c) {
        List<BigDecimal> found = new ArrayList<>();
        if (c == 0) {
            if (b != 0) {
                found.add(quotient(-a, b));
            }
            return found;
        }
        long under = b * b - 4 * a * c;
        if (under < 0) {
            return found;
        }
        long whole = BigInteger.valueOf(under).sqrt().longValueExact();
        int[] signs = under == 0 ? new int[] {0} : c > 0 ? new int[] {-1, 1} : new int[] {1, -1};
        for (int sign : signs) {
            if (whole * whole == under) {
                found.add(quotient(-b + sign * whole, 2 * c));
            } else {
                BigDecimal root = BigDecimal.valueOf(under).sqrt(DIGITS).multiply(BigDecimal.valueOf(sign));
                found.add(root.subtract(BigDecimal.valueOf(b)).divide(BigDecimal.valueOf(2 * c), DIGITS));
            }
        }
        return found;
    }

    /** Cut a little above, so that a third of 3 / 64 and its like never come out below a box's edge. */
    private static BigDecimal quotient(long over, long under) {
        return BigDecimal.valueOf(over).divide(BigDecimal.valueOf(under), 40, RoundingMode.CEILING);
    }

    private static List<long[]> wide(List<int[]> f) {
        List<long[]> made = new ArrayList<>();
        for (int[] row : f) {
            made.add(new long[] {row[0], row[1], row[2]});
        }
        return made;
    }

    int zeros(int place) {
        if (!isPlace(place)) {
            return -2;
        }
        List<Integer> boxes = boxesOf(wide(functions.get(place)));
        return boxes == null ? -4 : boxes.size();
    }

    int zero(int place, int k) {
        if (!isPlace(place)) {
            return -2;
        }
        List<Integer> boxes = boxesOf(wide(functions.get(place)));
        return boxes == null ? -4 : in(k, 0, boxes.size() - 1) ? boxes.get(k) : -2;
    }

    long area(int place, int i, int j, int part) {
        if (!isPlace(place) || !in(i, 0, functions.get(place).size()) || !in(j, i, functions.get(place).size())
                || !in(part, 0, 1)) {
            return LEAST_LONG;
        }
        Fraction sum = new Fraction(0, 1);
        for (int k = i; k < j; k++) {
            int[] row = functions.get(place).get(k);
            for (int degree = 0; degree < 3; degree++) {
                Fraction more = new Fraction(row[degree], degree + 1);
                Fraction both = new Fraction(sum.over() * more.under() + more.over() * sum.under(),
                        sum.under() * more.under());
                sum = new Fraction(both.part(0), both.part(1));
            }
        }
        return sum.part(part);
    }

    int same(int one, int two) {
        if (!isPlace(one) || !isPlace(two)) {
            return -2;
        }
        return text(functions.get(one)).equals(text(functions.get(two))) ? 1 : 0;
    }

    private static String text(List<int[]> f) {
        StringBuilder built = new StringBuilder();
        for (int[] row : f) {
            built.append(row[0]).append(',').append(row[1]).append(',').append(row[2]).append(';');
        }
        return built.toString();
    }

    int meets(int one, int two) {
        if (!isPlace(one) || !isPlace(two)) {
            return -2;
        }
        if (functions.get(one).size() != functions.get(two).size()) {
            return -4;
        }
        List<Integer> boxes = boxesOf(wide(mixed(functions.get(one), 1, functions.get(two), -1)));
        return boxes == null ? -4 : boxes.size();
    }

    private static List<int[]> mixed(List<int[]> one, int p, List<int[]> two, int q) {
        List<int[]> made = new ArrayList<>();
        for (int i = 0; i < one.size(); i++) {
            int[] row = new int[3];
            for (int k = 0; k < 3; k++) {
                row[k] = p * one.get(i)[k] + q * two.get(i)[k];
            }
            made.add(row);
        }
        return made;
    }

    int mix(int place, int one, int p, int two, int q) {
        if (!isPlace(place) || !isPlace(one) || !isPlace(two)) {
            return -2;
        }
        if (!in(p, -100, 100) || !in(q, -100, 100)) {
            return -3;
        }
        if (functions.get(one).size() != functions.get(two).size()) {
            return -4;
        }
        return keep(place, mixed(functions.get(one), p, functions.get(two), q));
    }

    int refine(int place, int other) {
        if (!isPlace(place) || !isPlace(other)) {
            return -2;
        }
        List<int[]> f = functions.get(other);
        if (f.size() > 8) {
            return -4;
        }
        List<int[]> made = new ArrayList<>();
        for (int half = 0; half < 2 * f.size(); half++) {
            // Three values of the piece settle it: at t = 0, 1/2, 1 of the new one.
            int[] row = f.get(half / 2);
            long sixteen = 16;
            long[] y = new long[3];
            for (int k = 0; k < 3; k++) {
                Fraction quarter = at(row, 2 * (half % 2) + k, 4);
                y[k] = 4 * quarter.over() * (sixteen / quarter.under());
            }
            long c = 2 * y[0] - 4 * y[1] + 2 * y[2];
            long b = y[2] - y[0] - c;
            made.add(new int[] {(int) (y[0] / 16), (int) (b / 16), (int) (c / 16)});
        }
        return keep(place, made);
    }

    int slope(int place, int other) {
        if (!isPlace(place) || !isPlace(other)) {
            return -2;
        }
        List<int[]> made = new ArrayList<>();
        for (int[] row : functions.get(other)) {
            made.add(new int[] {row[1], 2 * row[2], 0});
        }
        return keep(place, made);
    }

    int push(int place, int v) {
        if (!isPlace(place)) {
            return -2;
        }
        if (!in(v, -100000, 100000)) {
            return -3;
        }
        List<int[]> made = new ArrayList<>();
        for (int[] row : functions.get(place)) {
            made.add(new int[] {row[0] + v, row[1], row[2]});
        }
        return keep(place, made);
    }

    int point(int y) {
        if (!in(y, -1000, 1000)) {
            return -3;
        }
        if (ys.size() == 17) {
            return -6;
        }
        ys.add(y);
        return ys.size();
    }

    int clear() {
        int before = ys.size();
        ys.clear();
        return before;
    }

    int pointCount() {
        return ys.size();
    }

    private List<int[]> splineBy(int s) {
        List<int[]> made = new ArrayList<>();
        int slope = s;
        for (int i = 0; i + 1 < ys.size(); i++) {
            made.add(new int[] {ys.get(i), slope, ys.get(i + 1) - ys.get(i) - slope});
            slope = 2 * (ys.get(i + 1) - ys.get(i)) - slope;
        }
        return made;
    }

    private static long bendOf(List<int[]> f) {
        long sum = 0;
        for (int[] row : f) {
            sum += (long) row[2] * row[2];
        }
        return sum;
    }

    /** All slopes of a shape, each one tried. */
    private List<Integer> slopesOf(int shape) {
        List<Integer> found = new ArrayList<>();
        for (int s = -1000; s <= 1000; s++) {
            if (hasShape(splineBy(s), shape)) {
                found.add(s);
            }
        }
        return found;
    }

    int slopes(int shape, int what) {
        if (!in(shape, 0, 4) || !in(what, 0, 2) || ys.size() < 2) {
            return LEAST_INT;
        }
        List<Integer> found = slopesOf(shape);
        if (what == 2) {
            return found.size();
        }
        return found.isEmpty() ? 2000 : found.get(what == 0 ? 0 : found.size() - 1);
    }

    int best(int shape) {
        if (!in(shape, 0, 4) || ys.size() < 2) {
            return LEAST_INT;
        }
        int best = 2000;
        long least = Long.MAX_VALUE;
        for (int s : slopesOf(shape)) {
            long bend = bendOf(splineBy(s));
            if (bend < least) {
                least = bend;
                best = s;
            }
        }
        return best;
    }

    long bend(int s) {
        return !in(s, -1000, 1000) ? -3 : ys.size() < 2 ? -4 : bendOf(splineBy(s));
    }

    int spline(int place, int s) {
        if (!isPlace(place)) {
            return -2;
        }
        if (!in(s, -1000, 1000)) {
            return -3;
        }
        return ys.size() < 2 ? -4 : keep(place, splineBy(s));
    }

    int count(int place, int what) {
        if (!isPlace(place)) {
            return -2;
        }
        if (!in(what, 0, 2)) {
            return -3;
        }
        List<int[]> f = functions.get(place);
        int knots = 0;
        for (int knot = 1; knot < f.size(); knot++) {
            knots += joinOf(f, knot) == (what == 1 ? -1 : 2) ? 1 : 0;
        }
        return what == 0 ? f.size() : knots;
    }
}
