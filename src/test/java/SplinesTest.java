/** Promises 18 to 24: points, splines through them, and counts. */
public final class SplinesTest {
    private static final int MIN = Integer.MIN_VALUE, MAX = Integer.MAX_VALUE;

    private SplinesTest() {
    }

    public static void main(String[] args) {
        promise18Point();
        promise19Clear();
        promise20Slopes();
        promise20Bounds();
        promise20And21Refused();
        promise21Best();
        promise22Bend();
        promise23Spline();
        promise23Widest();
        promise24Count();
        Checks.finish("SplinesTest");
    }

    private static void promise18Point() {
        SmoothPieces x = new SmoothPieces();
        for (int y : new int[] {1001, -1001, MIN, MAX}) {
            Checks.due("18 outside", x.point(y), -3);
        }
        for (int k = 1; k <= 17; k++) {
            Checks.due("18 point", x.point(k % 2 == 0 ? 1000 : -1000), k);
        }
        Checks.due("18 full", x.point(0), -6);
        Checks.due("18 outside ahead of full", x.point(1001), -3);
        Checks.due("18 still 17", x.clear(), 17);
        Checks.due("18 again", x.point(5), 1);
    }

    private static void promise19Clear() {
        SmoothPieces x = new SmoothPieces();
        Checks.due("19 none", x.clear(), 0);
        Checks.points(x, 1, 2, 3);
        x.spline(1, 1);
        Checks.due("19 three", x.clear(), 3);
        Checks.due("19 none any more", x.clear(), 0);
        Checks.due("19 no spline now", x.spline(2, 1), -4);
        Checks.due("19 functions stay", x.count(1, 0), 2);
        Checks.points(x, 9, 7);
        Checks.due("19 new points", x.spline(2, 0), 1);
        Checks.isFilled("19 new points", x, 2, Checks.row(9, 0, -2));
    }

    private static void slopes(String what, SmoothPieces x, int shape, int least, int greatest, int many) {
        Checks.due("20 " + what + ": least", x.slopes(shape, 0), least);
        Checks.due("20 " + what + ": greatest", x.slopes(shape, 1), greatest);
        Checks.due("20 " + what + ": how many", x.slopes(shape, 2), many);
    }

    private static void promise20Slopes() {
        SmoothPieces x = new SmoothPieces();
        Checks.points(x, 0, 10);
        slopes("any", x, 0, -1000, 1000, 2001);
        slopes("rising", x, 1, 0, 20, 21);
        slopes("falling", x, 2, 2000, 2000, 0);
        slopes("bent up", x, 3, -1000, 10, 1011);
        slopes("bent down", x, 4, 10, 1000, 991);
        x.clear();
        Checks.points(x, 3, -2, -4);
        slopes("falling only", x, 1, 2000, 2000, 0);
        slopes("falling", x, 2, -10, -6, 5);
        slopes("bent up", x, 3, -8, -5, 4);
        slopes("bent down", x, 4, 2000, 2000, 0);
        x.clear();
        Checks.points(x, 0, 0, 0);
        slopes("level, rising", x, 1, 0, 0, 1);
        slopes("level, falling", x, 2, 0, 0, 1);
        slopes("level, bent up", x, 3, 0, 0, 1);
        slopes("level, bent down", x, 4, 0, 0, 1);
        x.clear();
        Checks.points(x, 0, 4, 6, 6);
        slopes("bent down", x, 4, 4, 6, 3);
        slopes("rising", x, 1, 4, 4, 1);
    }

    private static void promise20Bounds() {
        SmoothPieces x = new SmoothPieces();
        Checks.points(x, -1000, 1000);
        slopes("steep, rising", x, 1, 0, 1000, 1001);
        slopes("steep, falling", x, 2, 2000, 2000, 0);
        slopes("steep, bent up", x, 3, -1000, 1000, 2001);
        slopes("steep, bent down", x, 4, 2000, 2000, 0);
        x.clear();
        Checks.points(x, 0, 1000);
        slopes("bent down by one", x, 4, 1000, 1000, 1);
        x.clear();
        Checks.points(x, 0, -1000);
        slopes("bent up by one", x, 3, -1000, -1000, 1);
        slopes("falling by many", x, 2, -1000, 0, 1001);
        Checks.due("20 best of one", x.best(3), -1000);
    }

    private static void promise20And21Refused() {
        SmoothPieces x = new SmoothPieces();
        Checks.due("20 no points", x.slopes(0, 2), Checks.LEAST_INT);
        Checks.due("21 no points", x.best(0), Checks.LEAST_INT);
        x.point(3);
        Checks.due("20 one point", x.slopes(0, 2), Checks.LEAST_INT);
        Checks.due("21 one point", x.best(0), Checks.LEAST_INT);
        x.point(4);
        for (int wrong : new int[] {-1, MIN, MAX, 5}) {
            Checks.due("20 shape outside", x.slopes(wrong, 0), Checks.LEAST_INT);
            Checks.due("20 what outside", x.slopes(0, wrong), Checks.LEAST_INT);
            Checks.due("21 shape outside", x.best(wrong), Checks.LEAST_INT);
        }
        Checks.due("20 what outside", x.slopes(0, 3), Checks.LEAST_INT);
        slopes("two points", x, 1, 0, 2, 3);
    }

    private static void promise21Best() {
        SmoothPieces x = new SmoothPieces();
        Checks.points(x, 0, 10);
        Checks.due("21 straight", x.best(0), 10);
        Checks.due("21 straight", x.best(1), 10);
        Checks.due("21 none", x.best(2), 2000);
        Checks.due("21 straight", x.best(3), 10);
        Checks.due("21 straight", x.best(4), 10);
        x.clear();
        Checks.points(x, 0, 0, 1);
        Checks.due("21 of two the lesser, below 0", x.best(0), -1);
        x.clear();
        Checks.points(x, 0, 0, -1);
        Checks.due("21 of two the lesser, above 0", x.best(0), 0);
        Checks.due("21 bends are alike", x.bend(0), x.bend(1));
        x.clear();
        Checks.points(x, 0, 1, 1);
        Checks.due("21 of two the lesser, 1 of 1 and 2", x.best(0), 1);
        Checks.due("21 bends are alike", x.bend(1), x.bend(2));
        x.clear();
        Checks.points(x, 0, 4, 4, 10);
        Checks.due("21 any", x.best(0), 9);
        Checks.due("21 cut to the greatest", x.best(1), 8);
        x.clear();
        Checks.points(x, 0, 0, -6, 0);
        Checks.due("21 cut off", x.best(2), 2000);
        x.clear();
        Checks.points(x, 1000, -1000, 1000, -1000, 1000, -1000, 1000);
        Checks.due("21 beyond the least slope", x.best(0), -1000);
        x.clear();
        Checks.points(x, -1000, 1000, -1000, 1000, -1000, 1000, -1000);
        Checks.due("21 beyond the greatest slope", x.best(0), 1000);
        x.clear();
        Checks.points(x, 0, 4, 6, 6);
        Checks.due("21 nearest of a range", x.best(4), 5);
    }

    private static void promise22Bend() {
        SmoothPieces x = new SmoothPieces();
        Checks.due("22 outside ahead of not", x.bend(1001), -3);
        Checks.due("22 no points", x.bend(0), -4);
        x.point(0);
        Checks.due("22 one point", x.bend(0), -4);
        x.point(10);
        Checks.due("22 straight", x.bend(10), 0);
        Checks.due("22 by 7", x.bend(7), 9);
        Checks.due("22 by -1000", x.bend(-1000), 1010 * 1010);
        Checks.due("22 by 1000", x.bend(1000), 990 * 990);
        x.point(10);
        Checks.due("22 two pieces", x.bend(7), 9 + 13 * 13);
        for (int s : new int[] {1001, -1001, MIN, MAX}) {
            Checks.due("22 outside", x.bend(s), -3);
        }
        x.clear();
        for (int k = 0; k < 17; k++) {
            x.point(k % 2 == 0 ? 1000 : -1000);
        }
        long sum = 0;
        for (long k = 0; k < 16; k++) {
            long c = 3000 + 4000 * k;
            sum += c * c;
        }
        Checks.due("22 the greatest", x.bend(1000), sum);
        Checks.holds("22 the greatest is no int", sum > MAX);
    }

    private static void promise23Spline() {
        SmoothPieces x = new SmoothPieces();
        Checks.due("23 no points", x.spline(0, 0), -4);
        Checks.due("23 outside ahead of not", x.spline(0, 1001), -3);
        Checks.due("23 unknown ahead of outside", x.spline(6, 1001), -2);
        x.point(2);
        Checks.due("23 one point", x.spline(0, 0), -4);
        Checks.points(x, 5, -1, 0);
        x.pieces(0, 12);
        Checks.due("23 spline", x.spline(0, -4), 1);
        Checks.isFilled("23 by -4", x, 0, Checks.row(2, -4, 7), Checks.row(5, 10, -16), Checks.row(-1, -22, 23));
        Checks.fraction("23 through the last point", x, 0, 3, 1, 0, 1);
        for (int s : new int[] {1001, -1001, MIN, MAX}) {
            Checks.due("23 outside", x.spline(0, s), -3);
        }
        for (int place : Checks.NO_PLACES) {
            Checks.due("23 no such place", x.spline(place, 0), -2);
        }
        Checks.isFilled("23 nothing changes", x, 0, Checks.row(2, -4, 7), Checks.row(5, 10, -16),
                Checks.row(-1, -22, 23));
        Checks.due("23 points stay", x.point(0), 5);
        Checks.due("23 by 1000", x.spline(5, 1000), 1);
        Checks.due("23 by 1000", x.of(5, 0, 1), 1000);
        Checks.due("23 by -1000", x.spline(5, -1000), 1);
        Checks.due("23 by -1000", x.of(5, 0, 1), -1000);
    }

    private static void promise23Widest() {
        SmoothPieces x = new SmoothPieces();
        for (int k = 0; k < 17; k++) {
            x.point(k % 2 == 0 ? 1000 : -1000);
        }
        Checks.due("23 the widest", x.spline(3, 1000), 1);
        Checks.due("23 16 pieces", x.count(3, 0), 16);
        Checks.due("23 the last b", x.of(3, 15, 1), -61000);
        Checks.due("23 the last c", x.of(3, 15, 2), 63000);
        Checks.due("23 joined by slope at least", x.count(3, 1), 0);
        for (int knot = 1; knot < 16; knot++) {
            Checks.due("23 joined by slope", x.join(3, knot), 1);
        }
    }

    private static void promise24Count() {
        SmoothPieces x = new SmoothPieces();
        Checks.due("24 one piece", x.count(0, 0), 1);
        Checks.due("24 no knots", x.count(0, 1), 0);
        Checks.due("24 no knots", x.count(0, 2), 0);
        x.pieces(0, 16);
        Checks.due("24 16 pieces", x.count(0, 0), 16);
        Checks.due("24 all joined", x.count(0, 2), 15);
        x.piece(0, 3, 5, 0, 0);
        Checks.due("24 two jumps", x.count(0, 1), 2);
        Checks.due("24 two knots less", x.count(0, 2), 13);
        x.piece(0, 15, 0, 0, 1);
        Checks.due("24 JOIN 1 is neither", x.count(0, 1), 2);
        Checks.due("24 JOIN 1 is neither", x.count(0, 2), 12);
        x.piece(0, 15, 0, 1, 0);
        Checks.due("24 JOIN 0 is neither", x.count(0, 1), 2);
        Checks.due("24 JOIN 0 is neither", x.count(0, 2), 12);
        x.piece(0, 15, -1, 0, 0);
        Checks.due("24 the last knot", x.count(0, 1), 3);
        for (int what : new int[] {-1, 3, MIN, MAX}) {
            Checks.due("24 outside", x.count(0, what), -3);
        }
        for (int place : Checks.NO_PLACES) {
            Checks.due("24 no such place", x.count(place, 0), -2);
            Checks.due("24 unknown ahead of outside", x.count(place, 3), -2);
        }
    }
}
