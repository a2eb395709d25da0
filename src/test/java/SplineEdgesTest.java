/** The edges of points and splines, sentence by sentence of the document: promises 18 to 24. */
public final class SplineEdgesTest {
    private static final int NO_SLOPE = 2000;

    private SplineEdgesTest() {
    }

    public static void main(String[] args) {
        pointsToTheirBounds();
        seventeenPoints();
        clearOfNoneAndAll();
        fewerThanTwoPoints();
        splineOfEachNumberOfPoints();
        splineByTheBoundsOfS();
        splineNeverGreat();
        splineStaysWhenPointsChange();
        slopesOfAnyShape();
        slopesOfOneOrNone();
        slopesCutAtTheirBounds();
        slopesWithEqualOnes();
        slopesAndTheSplinesByThem();
        slopesTellOnlyWhatIsAsked();
        bestOfSeveralTheLeast();
        bestAtTheEndsOfItsSlopes();
        bestBeyondTheBounds();
        bestIsTheLeastBent();
        bendToItsBounds();
        countOfEachKind();
        Checks.finish("SplineEdgesTest");
    }

    private static SmoothPieces through(int... ys) {
        SmoothPieces x = new SmoothPieces();
        for (int k = 0; k < ys.length; k++) {
            Checks.due("point " + k, x.point(ys[k]), k + 1);
        }
        return x;
    }

    /** "each -1000 .. 1000" */
    private static void pointsToTheirBounds() {
        SmoothPieces x = new SmoothPieces();
        Checks.due("y 1001", x.point(1001), -3);
        Checks.due("y -1001", x.point(-1001), -3);
        Checks.due("y 1000", x.point(1000), 1);
        Checks.due("y -1000", x.point(-1000), 2);
        Checks.due("y 1001", x.point(1001), -3);
        Checks.due("y 0", x.point(0), 3);
        Checks.due("spline", x.spline(0, 0), 1);
        Checks.isFilled("the refused ones are not in it", x, 0, Checks.row(1000, 0, -2000),
                Checks.row(-1000, -4000, 5000));
    }

    /** "2 .. 17 of them", "A POINT more: how many. OUTSIDE; FULL." */
    private static void seventeenPoints() {
        SmoothPieces x = new SmoothPieces();
        for (int k = 1; k <= 17; k++) {
            Checks.due("point " + k, x.point(k), k);
        }
        Checks.due("point 18", x.point(18), -6);
        Checks.due("point 18 again", x.point(-1000), -6);
        Checks.due("OUTSIDE ahead of FULL", x.point(1001), -3);
        Checks.due("OUTSIDE ahead of FULL", x.point(-1001), -3);
        Checks.due("spline", x.spline(0, 1), 1);
        Checks.due("16 pieces", x.count(0, 0), 16);
        for (int i = 0; i < 16; i++) {
            Checks.due("y(" + i + ")", x.of(0, i, 0), i + 1);
            Checks.due("straight", x.of(0, i, 1), 1);
            Checks.due("straight", x.of(0, i, 2), 0);
        }
        Checks.due("17 points", x.clear(), 17);
    }

    /** "No POINTS any more: how many there were." */
    private static void clearOfNoneAndAll() {
        for (int many = 0; many <= 17; many++) {
            SmoothPieces x = new SmoothPieces();
            for (int k = 0; k < many; k++) {
                x.point(k * k);
            }
            Checks.due("there were " + many, x.clear(), many);
            Checks.due("none any more", x.clear(), 0);
            Checks.due("none: bend", x.bend(0), -4);
            Checks.due("none: spline", x.spline(0, 0), -4);
            Checks.due("none: slopes", x.slopes(0, 2), Checks.LEAST_INT);
            Checks.due("none: best", x.best(0), Checks.LEAST_INT);
            Checks.due("the first again", x.point(9), 1);
            Checks.due("one: bend", x.bend(0), -4);
            Checks.due("the second again", x.point(5), 2);
            Checks.due("two: bend", x.bend(0), 16);
            Checks.due("two: spline", x.spline(0, 0), 1);
            Checks.isFilled("nothing of the old ones", x, 0, Checks.row(9, 0, -4));
        }
        SmoothPieces x = new SmoothPieces();
        for (int k = 0; k < 18; k++) {
            x.point(k);
        }
        Checks.due("full, then cleared", x.clear(), 17);
        for (int k = 1; k <= 17; k++) {
            Checks.due("room for 17 again", x.point(-k), k);
        }
        Checks.due("and full again", x.point(0), -6);
    }

    /** "NOT: less than two POINTS" */
    private static void fewerThanTwoPoints() {
        for (int many = 0; many <= 2; many++) {
            SmoothPieces x = new SmoothPieces();
            for (int k = 0; k < many; k++) {
                x.point(5);
            }
            boolean isNot = many < 2;
            for (int shape = 0; shape <= 4; shape++) {
                boolean isOne = shape == 1 || shape == 2;
                Checks.due("slopes with " + many, x.slopes(shape, 2),
                        isNot ? Checks.LEAST_INT : shape == 0 ? 2001 : isOne ? 1 : 1001);
                Checks.due("best with " + many, x.best(shape), isNot ? Checks.LEAST_INT : 0);
            }
            Checks.due("bend with " + many, x.bend(3), isNot ? -4 : 9);
            Checks.due("bend with " + many + ", OUTSIDE", x.bend(1001), -3);
            Checks.due("spline with " + many, x.spline(4, 3), isNot ? -4 : 1);
            Checks.due("spline with " + many + ", OUTSIDE", x.spline(4, -1001), -3);
            Checks.due("spline with " + many + ", UNKNOWN", x.spline(6, -1001), -2);
        }
    }

    /** "PIECE i has a = y(i), b = s(i), c = y(i + 1) - y(i) - s(i)", "s(i + 1) = 2 (y(i + 1) - y(i)) - s(i)" */
    private static void splineOfEachNumberOfPoints() {
        for (int many = 2; many <= 17; many++) {
            SmoothPieces x = new SmoothPieces();
            int[] ys = new int[many];
            for (int k = 0; k < many; k++) {
                ys[k] = (k * 367 + 91) % 2001 - 1000;
                x.point(ys[k]);
            }
            x.pieces(2, 16);
            Checks.due("spline through " + many, x.spline(2, -13), 1);
            Checks.due("pieces through " + many, x.count(2, 0), many - 1);
            int s = -13;
            for (int i = 0; i < many - 1; i++) {
                Checks.due("a", x.of(2, i, 0), ys[i]);
                Checks.due("b", x.of(2, i, 1), s);
                Checks.due("c", x.of(2, i, 2), ys[i + 1] - ys[i] - s);
                s = 2 * (ys[i + 1] - ys[i]) - s;
                Checks.fraction("through point " + (i + 1), x, 2, i + 1, 1, ys[i + 1], 1);
            }
            Checks.due("joined everywhere", x.count(2, 1), 0);
            for (int knot = 1; knot < many - 1; knot++) {
                Checks.holds("slopes are joined, too", x.join(2, knot) >= 1);
            }
        }
    }

    /** "by s (-1000 .. 1000)", "whole s, -1000 .. 1000" */
    private static void splineByTheBoundsOfS() {
        SmoothPieces x = through(1, 3);
        Checks.due("s 1000", x.spline(0, 1000), 1);
        Checks.isFilled("s 1000", x, 0, Checks.row(1, 1000, -998));
        Checks.due("s 1001", x.spline(0, 1001), -3);
        Checks.isFilled("s 1001", x, 0, Checks.row(1, 1000, -998));
        Checks.due("s -1000", x.spline(0, -1000), 1);
        Checks.isFilled("s -1000", x, 0, Checks.row(1, -1000, 1002));
        Checks.due("s -1001", x.spline(0, -1001), -3);
        Checks.isFilled("s -1001", x, 0, Checks.row(1, -1000, 1002));
    }

    /** No GREAT is told for a spline: the widest stays in the bounds of a, b, c. */
    private static void splineNeverGreat() {
        for (int sign = -1; sign <= 1; sign += 2) {
            SmoothPieces x = new SmoothPieces();
            for (int k = 0; k < 17; k++) {
                x.point(k % 2 == 0 ? sign * 1000 : sign * -1000);
            }
            Checks.due("the widest", x.spline(0, sign * 1000), 1);
            Checks.due("b at last", x.of(0, 15, 1), sign * -61000);
            Checks.due("c at last", x.of(0, 15, 2), sign * 63000);
            Checks.due("one end", x.end(0, sign > 0 ? 0 : 1), sign * 14767);
            Checks.due("the other end", x.end(0, sign > 0 ? 1 : 0), sign * -15766);
        }
    }

    private static void splineStaysWhenPointsChange() {
        SmoothPieces x = through(0, 5, 1);
        x.spline(3, 2);
        x.point(9);
        Checks.isFilled("a point more", x, 3, Checks.row(0, 2, 3), Checks.row(5, 8, -12));
        x.clear();
        Checks.isFilled("no points", x, 3, Checks.row(0, 2, 3), Checks.row(5, 8, -12));
        SmoothPieces y = through(0, 5, 1);
        y.spline(3, 2);
        y.piece(3, 0, 9, 9, 9);
        Checks.due("a function is no point", y.spline(4, 2), 1);
        Checks.isFilled("points stay", y, 4, Checks.row(0, 2, 3), Checks.row(5, 8, -12));
    }

    private static void slopes(String what, SmoothPieces x, int shape, int least, int greatest, int many) {
        Checks.due(what + ": least of shape " + shape, x.slopes(shape, 0), least);
        Checks.due(what + ": greatest of shape " + shape, x.slopes(shape, 1), greatest);
        Checks.due(what + ": how many of shape " + shape, x.slopes(shape, 2), many);
    }

    private static void noSlopes(String what, SmoothPieces x, int shape) {
        slopes(what, x, shape, NO_SLOPE, NO_SLOPE, 0);
        Checks.due(what + ": best of none", x.best(shape), NO_SLOPE);
    }

    /** "0 any" */
    private static void slopesOfAnyShape() {
        slopes("two", through(0, 0), 0, -1000, 1000, 2001);
        slopes("steep", through(-1000, 1000, -1000), 0, -1000, 1000, 2001);
        SmoothPieces x = new SmoothPieces();
        for (int k = 0; k < 17; k++) {
            x.point(k % 3 * 1000 - 1000);
        }
        slopes("17 points", x, 0, -1000, 1000, 2001);
        for (int shape = 1; shape <= 4; shape++) {
            noSlopes("17 points", x, shape);
        }
    }

    /** "how many (2; 0 without any)", "2000 for 0, 1 without any" */
    private static void slopesOfOneOrNone() {
        SmoothPieces x = through(0, 1, 2, 3);
        slopes("a line", x, 1, 0, 2, 3);
        noSlopes("a line", x, 2);
        slopes("a line", x, 3, 1, 1, 1);
        slopes("a line", x, 4, 1, 1, 1);
        x = through(0, 0, 0);
        for (int shape = 1; shape <= 4; shape++) {
            slopes("level", x, shape, 0, 0, 1);
        }
        x = through(0, 1, 0);
        noSlopes("up and down", x, 1);
        noSlopes("up and down", x, 2);
        noSlopes("up and down", x, 3);
        slopes("up and down", x, 4, 1, 3, 3);
        x = through(0, 4, 6, 6);
        slopes("one by which it rises", x, 1, 4, 4, 1);
        x = through(0, 4, 5, 6, 9);
        slopes("rises throughout", x, 1, 6, 8, 3);
        noSlopes("missed by one", through(0, 1, 4, 4), 1);
    }

    private static void slopesCutAtTheirBounds() {
        SmoothPieces x = through(0, 1000);
        slopes("just one at the bound", x, 4, 1000, 1000, 1);
        slopes("all", x, 3, -1000, 1000, 2001);
        slopes("rising, cut", x, 1, 0, 1000, 1001);
        x = through(-1, 1000);
        noSlopes("none in the bounds", x, 4);
        slopes("all", x, 3, -1000, 1000, 2001);
        x = through(1, 1000);
        slopes("two at the bound", x, 4, 999, 1000, 2);
        x = through(0, -1000);
        slopes("just one at the lower bound", x, 3, -1000, -1000, 1);
        slopes("falling, cut", x, 2, -1000, 0, 1001);
        x = through(1, -1000);
        noSlopes("none in the bounds", x, 3);
        slopes("all", x, 4, -1000, 1000, 2001);
        x = through(0, 500);
        slopes("rising to the bound", x, 1, 0, 1000, 1001);
        x = through(0, 499);
        slopes("rising, not cut", x, 1, 0, 998, 999);
    }

    /** A slope of 0 rises and falls, c = 0 is bent both ways: no x is less, none is more. */
    private static void slopesWithEqualOnes() {
        SmoothPieces x = through(3, 7);
        slopes("from slope 0 to slope 0 at last", x, 1, 0, 8, 9);
        slopes("c = 0 and more", x, 3, -1000, 4, 1005);
        slopes("c = 0 and less", x, 4, 4, 1000, 997);
        x = through(7, 3);
        slopes("from slope 0 at last to slope 0", x, 2, -8, 0, 9);
        slopes("c = 0 and more", x, 3, -1000, -4, 997);
        slopes("c = 0 and less", x, 4, -4, 1000, 1005);
    }

    /** "by which the SPLINE has that SHAPE": from the least to the greatest they have it, beyond these not. */
    private static void slopesAndTheSplinesByThem() {
        int[][] all = {{0, 10}, {10, 0}, {0, 4, 6, 6}, {6, 6, 4, 0}, {0, 1, 4, 9, 16, 25}, {0, -1, -4, -9},
            {3, 5, 6, 9, 13, 14}, {0, 0, 0, 0}, {0, 500, 900}, {900, 400, 1}, {-1000, 1000}, {0, 5, 10, 14, 19, 23}};
        for (int[] ys : all) {
            for (int shape = 1; shape <= 4; shape++) {
                SmoothPieces x = through(ys);
                int many = x.slopes(shape, 2);
                int least = x.slopes(shape, 0);
                int greatest = x.slopes(shape, 1);
                Checks.due("as many as from least to greatest", many, least == NO_SLOPE ? 0 : greatest - least + 1);
                int from = many == 0 ? -1000 : Math.max(-1000, least - 3);
                int to = many == 0 ? 1000 : Math.min(1000, greatest + 3);
                int step = Math.max(1, (to - from) / 90);
                for (int s = from; s <= to; s += s < from + 7 || s > to - 7 - step ? 1 : step) {
                    x.spline(1, s);
                    boolean isOneOfThem = many > 0 && s >= least && s <= greatest;
                    Checks.due("shape " + shape + " by " + s, x.has(1, shape), isOneOfThem ? 1 : 0);
                }
            }
        }
    }

    private static void slopesTellOnlyWhatIsAsked() {
        SmoothPieces x = through(0, 10);
        Checks.due("greatest first", x.slopes(1, 1), 20);
        Checks.due("how many next", x.slopes(2, 2), 0);
        Checks.due("least then", x.slopes(1, 0), 0);
        Checks.due("best then", x.best(4), 10);
        Checks.due("any again", x.slopes(0, 2), 2001);
        x.point(5);
        Checks.due("with a point more", x.slopes(1, 2), 0);
        Checks.due("what -1", x.slopes(1, -1), Checks.LEAST_INT);
        Checks.due("what 3", x.slopes(1, 3), Checks.LEAST_INT);
        Checks.due("shape -1", x.slopes(-1, 0), Checks.LEAST_INT);
        Checks.due("shape 5", x.slopes(5, 0), Checks.LEAST_INT);
        Checks.due("best of shape -1", x.best(-1), Checks.LEAST_INT);
        Checks.due("best of shape 5", x.best(5), Checks.LEAST_INT);
    }

    /** "of several the least" */
    private static void bestOfSeveralTheLeast() {
        for (int base = -5; base <= 5; base++) {
            // c is base - s and s - base - 1: 1 together at s = base and at s = base + 1
            SmoothPieces x = through(0, base, 2 * base - 1);
            Checks.due("bend by " + base, x.bend(base), 1);
            Checks.due("bend by one more", x.bend(base + 1), 1);
            Checks.due("the least of both", x.best(0), base);
        }
        SmoothPieces x = through(0, 1, 1);
        Checks.due("of 1 and 2 the least", x.best(0), 1);
        Checks.due("only the greater of both rises", x.slopes(1, 2), 1);
        Checks.due("only the greater of both rises", x.best(1), 2);
        x = through(0, 1, 0, 0, 1, 0, 0);
        long least = x.bend(x.best(0));
        for (int s = -20; s <= 20; s++) {
            Checks.holds("none is bent less", x.bend(s) > least || x.bend(s) == least && s >= x.best(0));
        }
    }

    private static void bestAtTheEndsOfItsSlopes() {
        SmoothPieces x = through(0, 4, 4, 10);
        Checks.due("of all", x.best(0), 9);
        Checks.due("the greatest of its slopes", x.best(1), x.slopes(1, 1));
        x = through(0, 4, 6, 6);
        Checks.due("inside", x.best(4), 5);
        Checks.due("the only one", x.best(1), 4);
        x = through(0, 10);
        Checks.due("c = 0 is bent up and down", x.best(3), 10);
        Checks.due("c = 0 is bent up and down", x.best(4), 10);
        Checks.due("c = 0 rises", x.best(1), 10);
    }

    private static void bestBeyondTheBounds() {
        Checks.due("1000 at most", through(-1000, 1000).best(0), 1000);
        Checks.due("1000 at most, bent up", through(-1000, 1000).best(3), 1000);
        Checks.due("-1000 at least", through(1000, -1000).best(0), -1000);
        Checks.due("-1000 at least, bent down", through(1000, -1000).best(4), -1000);
        Checks.due("just at 1000", through(0, 1000).best(0), 1000);
        Checks.due("just at -1000", through(0, -1000).best(0), -1000);
        // The two least bent are 1000 and 1001, and -1001 and -1000: one of both is in the bounds.
        Checks.due("half beyond 1000", through(0, 667, 667).best(0), 1000);
        Checks.due("half beyond -1000", through(0, -667, -667).best(0), -1000);
        Checks.due("rising, 1000 at most", through(-1000, 1000).best(1), 1000);
        Checks.due("falling, -1000 at least", through(1000, -1000).best(2), -1000);
    }

    private static void bestIsTheLeastBent() {
        int[][] all = {{0, 3, 1, 7}, {5, -2, 9, 9, 0}, {0, 1, 4, 9, 16, 25}, {7, 7, 7, 6},
            {100, -30, 44, 81, -2, 19, 3}};
        for (int[] ys : all) {
            for (int shape = 0; shape <= 4; shape++) {
                SmoothPieces x = through(ys);
                int best = x.best(shape);
                int least = x.slopes(shape, 0);
                int greatest = x.slopes(shape, 1);
                Checks.holds("one of its slopes", best >= least && best <= greatest);
                if (best != NO_SLOPE) {
                    for (int s = Math.max(least, best - 50); s <= Math.min(greatest, best + 50); s++) {
                        long more = x.bend(s) - x.bend(best);
                        Checks.holds("less bent by " + s, s < best ? more > 0 : more >= 0);
                    }
                }
            }
        }
    }

    /** "the squares of all c together", "-3 OUTSIDE; -4 NOT" */
    private static void bendToItsBounds() {
        SmoothPieces x = through(0, 10);
        Checks.due("0", x.bend(10), 0);
        Checks.due("by 1000", x.bend(1000), 990 * 990);
        Checks.due("by -1000", x.bend(-1000), 1010 * 1010);
        Checks.due("by 1001", x.bend(1001), -3);
        Checks.due("by -1001", x.bend(-1001), -3);
        x = new SmoothPieces();
        long sum = 0;
        for (int k = 0; k < 17; k++) {
            x.point(k % 2 == 0 ? 1000 : -1000);
            if (k > 0) {
                long c = k % 2 == 0 ? 4000L * k - 1000 : -4000L * k + 1000;
                sum += c * c;
                Checks.due("beyond an int, " + k + " pieces", x.bend(1000), sum);
            }
        }
        Checks.holds("beyond an int", sum > 20000000000L);
    }

    /** "0 PIECES of a PLACE, 1 its KNOTS of JOIN -1, 2 of JOIN 2." */
    private static void countOfEachKind() {
        SmoothPieces x = new SmoothPieces();
        for (int n = 1; n <= 16; n++) {
            x.pieces(0, n);
            Checks.due("pieces of " + n, x.count(0, 0), n);
            Checks.due("jumps of " + n, x.count(0, 1), 0);
            Checks.due("smooth knots of " + n, x.count(0, 2), n - 1);
            x.piece(0, n - 1, 1, 0, 0);
            Checks.due("a jump at the last knot of " + n, x.count(0, 1), n == 1 ? 0 : 1);
            Checks.due("smooth knots of " + n, x.count(0, 2), n == 1 ? 0 : n - 2);
        }
        Checks.fill(x, 1, Checks.row(0, 0, 0), Checks.row(0, 0, 0), Checks.row(0, 0, 1), Checks.row(1, 0, 0),
                Checks.row(5, 0, 0));
        Checks.due("one of each JOIN: -1", x.count(1, 1), 1);
        Checks.due("one of each JOIN: 2", x.count(1, 2), 1);
        Checks.due("JOIN 2", x.join(1, 1), 2);
        Checks.due("JOIN 1", x.join(1, 2), 1);
        Checks.due("JOIN 0", x.join(1, 3), 0);
        Checks.due("JOIN -1", x.join(1, 4), -1);
        Checks.due("what 3", x.count(1, 3), -3);
        Checks.due("what -1", x.count(1, -1), -3);
        Checks.due("UNKNOWN ahead of OUTSIDE", x.count(6, 3), -2);
    }
}
