/**
 * Functions of pieces of the second degree on whole knots, kept exactly, and splines through points.
 * What every call answers is told in the document; README.md says how to use the class.
 */
public final class SmoothPieces {
    public static final int NONE = -1, UNKNOWN = -2, OUTSIDE = -3, NOT = -4, GREAT = -5, FULL = -6;

    private static final int DONE = 1;
    // Where every small number may be an answer, a refusal is the least number that there is.
    private static final int REFUSED = -2147483648;
    private static final long REFUSED_LONG = -9223372036854775808L;

    private static final int PLACES = 6;
    private static final int MOST_PIECES = 16;
    private static final int MOST_PIECES_TO_REFINE = 8;
    private static final int MOST_POINTS = 17;
    private static final int COEFFICIENT_BOUND = 100000;
    private static final int FACTOR_BOUND = 100;
    private static final int POINT_BOUND = 1000;
    private static final int SLOPE_BOUND = 1000;
    private static final int GREATEST_DENOMINATOR = 64;
    private static final int NO_SLOPE = 2000;

    private static final int ANY = 0, RISING = 1, FALLING = 2, BENT_UP = 3, BENT_DOWN = 4;

    private final Curve[] curves = new Curve[PLACES];
    // Made once and used by all calls, so that no call makes an object.
    private final Curve draft = new Curve();
    private final ZeroFinder finder = new ZeroFinder();
    private final SlopeRange range = new SlopeRange();
    private final int[] points = new int[MOST_POINTS];
    private int pointCount = 0;

    public SmoothPieces() {
        for (int place = 0; place < PLACES; place++) {
            curves[place] = new Curve();
        }
    }

    // ---- functions

    public int pieces(int place, int n) {
        if (isNoPlace(place)) {
            return UNKNOWN;
        }
        if (n < 1 || n > MOST_PIECES) {
            return OUTSIDE;
        }
        curves[place].becomeZero(n);
        return DONE;
    }

    public int piece(int place, int i, int a, int b, int c) {
        if (isNoPiece(place, i)) {
            return UNKNOWN;
        }
        if (isBeyond(a, COEFFICIENT_BOUND) || isBeyond(b, COEFFICIENT_BOUND) || isBeyond(c, COEFFICIENT_BOUND)) {
            return GREAT;
        }
        curves[place].put(i, a, b, c);
        return DONE;
    }

    public int of(int place, int i, int what) {
        if (isNoPiece(place, i)) {
            return REFUSED;
        }
        switch (what) {
            case 0:
                return curves[place].a[i];
            case 1:
                return curves[place].b[i];
            case 2:
                return curves[place].c[i];
            default:
                return REFUSED;
        }
    }

    public long value(int place, int u, int v, int part) {
        if (isNoPlace(place) || isNoPart(part) || v < 1 || v > GREATEST_DENOMINATOR) {
            return REFUSED_LONG;
        }
        Curve curve = curves[place];
        if (u < 0 || u > curve.size * v) {
            return REFUSED_LONG;
        }
        // At the right end there is no piece that begins: the last one goes on to t = 1.
        int i = Math.min(u / v, curve.size - 1);
        long rest = u - i * v;
        long numerator = ((long) curve.a[i] * v + curve.b[i] * rest) * v + curve.c[i] * rest * rest;
        return partInLowestTerms(numerator, (long) v * v, part);
    }

    public int join(int place, int knot) {
        if (isNoPlace(place) || knot < 1 || knot >= curves[place].size) {
            return UNKNOWN;
        }
        return curves[place].joinAt(knot);
    }

    public int has(int place, int shape) {
        if (isNoPlace(place)) {
            return UNKNOWN;
        }
        if (shape < RISING || shape > BENT_DOWN) {
            return OUTSIDE;
        }
        int sign = signOfShape(shape);
        boolean fits = isBent(shape) ? curves[place].isBentUp(sign) : curves[place].isRising(sign);
        return fits ? 1 : 0;
    }

    public int end(int place, int way) {
        if (isNoPlace(place)) {
            return REFUSED;
        }
        switch (way) {
            case 0:
                return (int) curves[place].top(1);
            case 1:
                return (int) -curves[place].top(-1);
            default:
                return REFUSED;
        }
    }

    public int zeros(int place) {
        if (isNoPlace(place)) {
            return UNKNOWN;
        }
        return countZeros(curves[place]);
    }

    public int zero(int place, int k) {
        if (isNoPlace(place)) {
            return UNKNOWN;
        }
        int found = countZeros(curves[place]);
        if (found == NOT) {
            return NOT;
        }
        if (k < 0 || k >= found) {
            return UNKNOWN;
        }
        return finder.boxes[k];
    }

    public long area(int place, int i, int j, int part) {
        if (isNoPlace(place) || isNoPart(part)) {
            return REFUSED_LONG;
        }
        Curve curve = curves[place];
        if (i < 0 || i > j || j > curve.size) {
            return REFUSED_LONG;
        }
        long sixths = 0;
        for (int k = i; k < j; k++) {
            sixths += 6L * curve.a[k] + 3L * curve.b[k] + 2L * curve.c[k];
        }
        return partInLowestTerms(sixths, 6, part);
    }

    public int same(int one, int two) {
        if (isNoPlace(one) || isNoPlace(two)) {
            return UNKNOWN;
        }
        return curves[one].isLike(curves[two]) ? 1 : 0;
    }

    public int meets(int one, int two) {
        if (isNoPlace(one) || isNoPlace(two)) {
            return UNKNOWN;
        }
        if (curves[one].size != curves[two].size) {
            return NOT;
        }
        // The bounds of a piece don't hold for this difference: it is looked at and never kept.
        draft.becomeSum(curves[one], 1, curves[two], -1);
        return countZeros(draft);
    }

    // ---- made of others

    public int mix(int place, int one, int p, int two, int q) {
        if (isNoPlace(place) || isNoPlace(one) || isNoPlace(two)) {
            return UNKNOWN;
        }
        if (isBeyond(p, FACTOR_BOUND) || isBeyond(q, FACTOR_BOUND)) {
            return OUTSIDE;
        }
        if (curves[one].size != curves[two].size) {
            return NOT;
        }
        draft.becomeSum(curves[one], p, curves[two], q);
        return keepDraft(curves[place]);
    }

    public int refine(int place, int other) {
        if (isNoPlace(place) || isNoPlace(other)) {
            return UNKNOWN;
        }
        if (curves[other].size > MOST_PIECES_TO_REFINE) {
            return NOT;
        }
        draft.becomeRefined(curves[other]);
        return keepDraft(curves[place]);
    }

    public int slope(int place, int other) {
        if (isNoPlace(place) || isNoPlace(other)) {
            return UNKNOWN;
        }
        draft.becomeSloped(curves[other]);
        return keepDraft(curves[place]);
    }

    public int push(int place, int v) {
        if (isNoPlace(place)) {
            return UNKNOWN;
        }
        if (isBeyond(v, COEFFICIENT_BOUND)) {
            return OUTSIDE;
        }
        draft.becomePushed(curves[place], v);
        return keepDraft(curves[place]);
    }

    // ---- splines

    public int point(int y) {
        if (isBeyond(y, POINT_BOUND)) {
            return OUTSIDE;
        }
        if (pointCount >= MOST_POINTS) {
            return FULL;
        }
        points[pointCount] = y;
        pointCount++;
        return pointCount;
    }

    public int clear() {
        int before = pointCount;
        pointCount = 0;
        return before;
    }

    public int slopes(int shape, int what) {
        if (isNoShape(shape) || what < 0 || what > 2 || hasTooFewPoints()) {
            return REFUSED;
        }
        findSlopes(shape);
        if (what == 2) {
            return range.size();
        }
        if (range.size() == 0) {
            return NO_SLOPE;
        }
        return what == 0 ? range.least : range.greatest;
    }

    public int best(int shape) {
        if (isNoShape(shape) || hasTooFewPoints()) {
            return REFUSED;
        }
        findSlopes(shape);
        if (range.size() == 0) {
            return NO_SLOPE;
        }
        // The bend is a parabola in s that opens upward: inside a range, the nearest s to its foot is best.
        return Math.max(range.least, Math.min(range.greatest, leastBentOfAll()));
    }

    public long bend(int s) {
        if (isBeyond(s, SLOPE_BOUND)) {
            return OUTSIDE;
        }
        if (hasTooFewPoints()) {
            return NOT;
        }
        draftSpline(s);
        long squares = 0;
        for (int i = 0; i < draft.size; i++) {
            squares += (long) draft.c[i] * draft.c[i];
        }
        return squares;
    }

    public int spline(int place, int s) {
        if (isNoPlace(place)) {
            return UNKNOWN;
        }
        if (isBeyond(s, SLOPE_BOUND)) {
            return OUTSIDE;
        }
        if (hasTooFewPoints()) {
            return NOT;
        }
        draftSpline(s);
        return keepDraft(curves[place]);
    }

    public int count(int place, int what) {
        if (isNoPlace(place)) {
            return UNKNOWN;
        }
        switch (what) {
            case 0:
                return curves[place].size;
            case 1:
                return curves[place].knotsJoined(-1);
            case 2:
                return curves[place].knotsJoined(2);
            default:
                return OUTSIDE;
        }
    }

    // ---- what is refused

    private static boolean isNoPlace(int place) {
        return place < 0 || place >= PLACES;
    }

    private boolean isNoPiece(int place, int i) {
        return isNoPlace(place) || i < 0 || i >= curves[place].size;
    }

    private static boolean isNoPart(int part) {
        return part != 0 && part != 1;
    }

    private static boolean isNoShape(int shape) {
        return shape < ANY || shape > BENT_DOWN;
    }

    private static boolean isBeyond(int number, int bound) {
        return number < -bound || number > bound;
    }

    private boolean hasTooFewPoints() {
        return pointCount < 2;
    }

    // ---- parts of the calls

    /** A curve falls, or is bent down, just when its mirror image rises, or is bent up. */
    private static int signOfShape(int shape) {
        return shape == FALLING || shape == BENT_DOWN ? -1 : 1;
    }

    private static boolean isBent(int shape) {
        return shape == BENT_UP || shape == BENT_DOWN;
    }

    /** The new function waits in the draft, so that a refused one changes nothing and a place may be made of itself. */
    private int keepDraft(Curve target) {
        if (!draft.isInBounds()) {
            return GREAT;
        }
        target.becomeCopy(draft);
        return DONE;
    }

    private int countZeros(Curve curve) {
        if (curve.hasZeroPiece()) {
            return NOT;
        }
        finder.search(curve);
        return finder.found;
    }

    private static long partInLowestTerms(long numerator, long denominator, int part) {
        long common = commonDivisor(Math.abs(numerator), denominator);
        return (part == 0 ? numerator : denominator) / common;
    }

    private static long commonDivisor(long one, long two) {
        // Two longs need fewer than a hundred steps of Euclid's.
        for (int step = 0; step < 100 && two != 0; step++) {
            long rest = one % two;
            one = two;
            two = rest;
        }
        return Math.max(1, one);
    }

    private void draftSpline(int s) {
        int firstSlope = s;
        draft.becomeZero(pointCount - 1);
        for (int i = 0; i < draft.size; i++) {
            int step = points[i + 1] - points[i];
            draft.put(i, points[i], firstSlope, step - firstSlope);
            firstSlope = 2 * step - firstSlope;
        }
    }

    /**
     * By s instead of 0, piece i of the spline has s more (i even) or less (i odd) as b, and as much less or more
     * as c. So each piece bounds s on one side, and the slopes of a shape are all s between two bounds.
     */
    private void findSlopes(int shape) {
        draftSpline(0);
        range.becomeAll(SLOPE_BOUND);
        if (shape == ANY) {
            return;
        }
        int sign = signOfShape(shape);
        int turn = sign;
        for (int i = 0; i < draft.size; i++) {
            if (isBent(shape)) {
                range.require(sign * draft.c[i], -turn);
            } else {
                range.require(sign * draft.b[i], turn);
                range.require(sign * draft.slopeAtEnd(i), -turn);
            }
            turn = -turn;
        }
    }

    /** Of all whole s, however great: that with the least bend, of two the lesser. The draft is the spline by 0. */
    private int leastBentOfAll() {
        int sum = 0;
        int turn = 1;
        for (int i = 0; i < draft.size; i++) {
            sum += turn * draft.c[i];
            turn = -turn;
        }
        // The foot is sum / size; the whole number next to it, a half going down.
        int size = Math.max(1, draft.size);
        return -Math.floorDiv(size - 2 * sum, 2 * size);
    }

    /** A function: piece i is a[i] + b[i] t + c[i] t t. */
    private static final class Curve {
        private final int[] a = new int[MOST_PIECES];
        private final int[] b = new int[MOST_PIECES];
        private final int[] c = new int[MOST_PIECES];
        private int size = 1;

        private void put(int i, int newA, int newB, int newC) {
            a[i] = newA;
            b[i] = newB;
            c[i] = newC;
        }

        private void becomeZero(int newSize) {
            size = newSize;
            for (int i = 0; i < size; i++) {
                put(i, 0, 0, 0);
            }
        }

        private void becomeCopy(Curve other) {
            size = other.size;
            for (int i = 0; i < size; i++) {
                put(i, other.a[i], other.b[i], other.c[i]);
            }
        }

        private void becomeSum(Curve one, int p, Curve two, int q) {
            size = Math.min(one.size, two.size);
            for (int i = 0; i < size; i++) {
                put(i, p * one.a[i] + q * two.a[i], p * one.b[i] + q * two.b[i], p * one.c[i] + q * two.c[i]);
            }
        }

        /** Four times the other at x / 2: with t / 2 in the left half of a piece, (1 + t) / 2 in the right one. */
        private void becomeRefined(Curve other) {
            int halves = Math.min(other.size, MOST_PIECES / 2);
            size = 2 * halves;
            for (int i = 0; i < halves; i++) {
                int oldA = other.a[i];
                int oldB = other.b[i];
                int oldC = other.c[i];
                put(2 * i, 4 * oldA, 2 * oldB, oldC);
                put(2 * i + 1, 4 * oldA + 2 * oldB + oldC, 2 * oldB + 2 * oldC, oldC);
            }
        }

        private void becomeSloped(Curve other) {
            size = other.size;
            for (int i = 0; i < size; i++) {
                put(i, other.b[i], 2 * other.c[i], 0);
            }
        }

        private void becomePushed(Curve other, int v) {
            size = other.size;
            for (int i = 0; i < size; i++) {
                put(i, other.a[i] + v, other.b[i], other.c[i]);
            }
        }

        private boolean isInBounds() {
            for (int i = 0; i < size; i++) {
                if (isBeyond(a[i], COEFFICIENT_BOUND) || isBeyond(b[i], COEFFICIENT_BOUND)
                        || isBeyond(c[i], COEFFICIENT_BOUND)) {
                    return false;
                }
            }
            return true;
        }

        private boolean hasZeroPiece() {
            for (int i = 0; i < size; i++) {
                if (a[i] == 0 && b[i] == 0 && c[i] == 0) {
                    return true;
                }
            }
            return false;
        }

        private boolean isLike(Curve other) {
            if (size != other.size) {
                return false;
            }
            for (int i = 0; i < size; i++) {
                if (a[i] != other.a[i] || b[i] != other.b[i] || c[i] != other.c[i]) {
                    return false;
                }
            }
            return true;
        }

        private int valueAtEnd(int i) {
            return a[i] + b[i] + c[i];
        }

        private int slopeAtEnd(int i) {
            return b[i] + 2 * c[i];
        }

        private int joinAt(int knot) {
            int left = knot - 1;
            if (valueAtEnd(left) != a[knot]) {
                return -1;
            }
            if (slopeAtEnd(left) != b[knot]) {
                return 0;
            }
            return c[left] != c[knot] ? 1 : 2;
        }

        private int knotsJoined(int join) {
            int knots = 0;
            for (int knot = 1; knot < size; knot++) {
                if (joinAt(knot) == join) {
                    knots++;
                }
            }
            return knots;
        }

        /** The slope is straight inside a piece, so its two ends tell its sign. */
        private boolean isRising(int sign) {
            for (int i = 0; i < size; i++) {
                if (sign * b[i] < 0 || sign * slopeAtEnd(i) < 0) {
                    return false;
                }
                if (i > 0 && sign * (a[i] - valueAtEnd(i - 1)) < 0) {
                    return false;
                }
            }
            return true;
        }

        private boolean isBentUp(int sign) {
            for (int i = 0; i < size; i++) {
                if (sign * c[i] < 0) {
                    return false;
                }
                if (i > 0 && (joinAt(i) < 0 || sign * (b[i] - slopeAtEnd(i - 1)) < 0)) {
                    return false;
                }
            }
            return true;
        }

        /** The top of sign times the function. */
        private long top(int sign) {
            long top = topOfPiece(sign * a[0], sign * b[0], sign * c[0]);
            for (int i = 1; i < size; i++) {
                top = Math.max(top, topOfPiece(sign * a[i], sign * b[i], sign * c[i]));
            }
            return top;
        }

        private static long topOfPiece(long a, long b, long c) {
            long top = Math.max(a, a + b + c);
            // A piece that rises first and falls at last has its peak, a + b b / (-4 c), between its ends.
            if (c < 0 && b > 0 && b + 2 * c < 0) {
                top = a - Math.floorDiv(b * b, 4 * c);
            }
            return top;
        }
    }

    /** Finds the boxes of all zeros of a function that has no piece 0 throughout. */
    private static final class ZeroFinder {
        private static final int BOXES_A_PIECE = 64;

        private final int[] boxes = new int[2 * MOST_PIECES];
        private int found = 0;
        // The piece that is looked at, by s = 64 t and 4096 times as high: of whole numbers at each box's edge.
        private long a = 0;
        private long b = 0;
        private long c = 0;

        private void search(Curve curve) {
            found = 0;
            for (int i = 0; i < curve.size; i++) {
                if (take(curve.a[i], curve.b[i], curve.c[i])) {
                    searchPiece(i, i == curve.size - 1);
                }
            }
        }

        /** Turns the piece so that it rises at last; false if it can't be 0 at any x at all. */
        private boolean take(long pieceA, long pieceB, long pieceC) {
            long lead = pieceC != 0 ? pieceC : pieceB;
            int sign = lead < 0 ? -1 : 1;
            a = sign * pieceA * BOXES_A_PIECE * BOXES_A_PIECE;
            b = sign * pieceB * BOXES_A_PIECE;
            c = sign * pieceC;
            return lead != 0 && discriminant() >= 0;
        }

        private long discriminant() {
            return b * b - 4 * a * c;
        }

        private void searchPiece(int i, boolean isLast) {
            if (c > 0 && discriminant() > 0) {
                keepRoot(i, isLast, true);
            }
            keepRoot(i, isLast, false);
        }

        private void keepRoot(int i, boolean isLast, boolean isLesser) {
            if (sideOfRoot(0, isLesser) > 0) {
                return;
            }
            int atEnd = sideOfRoot(BOXES_A_PIECE, isLesser);
            // What a piece would be at t = 1 is a value from the left alone, but for the last piece.
            if (atEnd < 0 || atEnd == 0 && !isLast || found >= boxes.length) {
                return;
            }
            int box = atEnd == 0 ? BOXES_A_PIECE : boxInside(isLesser);
            boxes[found] = i * BOXES_A_PIECE + box;
            found++;
        }

        private int boxInside(boolean isLesser) {
            int box = 0;
            for (int width = BOXES_A_PIECE / 2; width > 0; width /= 2) {
                if (sideOfRoot(box + width, isLesser) <= 0) {
                    box += width;
                }
            }
            return box;
        }

        /**
         * Whether s is before a root (-1), at it (0) or behind it (1), without a square root: only before the lesser
         * root the piece is above 0 and falls, only behind the greater one it is above 0 and rises. A straight piece
         * and one that only touches 0 have the greater root alone.
         */
        private int sideOfRoot(long s, boolean isLesser) {
            long height = (c * s + b) * s + a;
            long rise = 2 * c * s + b;
            if (isLesser) {
                return height < 0 || rise > 0 ? 1 : height == 0 ? 0 : -1;
            }
            return height < 0 || rise < 0 ? -1 : height == 0 ? 0 : 1;
        }
    }

    /** All whole s from the least to the greatest; none, if the least is above. */
    private static final class SlopeRange {
        private int least = 0;
        private int greatest = 0;

        private void becomeAll(int bound) {
            least = -bound;
            greatest = bound;
        }

        /** Only those s stay for which height + turn s (turn 1 or -1) is not below 0. */
        private void require(int height, int turn) {
            if (turn > 0) {
                least = Math.max(least, -height);
            } else {
                greatest = Math.min(greatest, height);
            }
        }

        private int size() {
            return Math.max(0, greatest - least + 1);
        }
    }
}
