/** The edges of shapes, top and bottom, sentence by sentence of the document: promises 7 and 8. */
public final class ShapeEdgesTest {
    private static final int[] LEVEL = {0, 0, 0};

    private ShapeEdgesTest() {
    }

    public static void main(String[] args) {
        level();
        risingInsideAPiece();
        risingAtAKnot();
        risingAndSteps();
        bentInsideAPiece();
        bentAtAKnot();
        bentOnlyWhereJoined();
        oneBadPieceOfSixteen();
        shapesWithoutWrapAround();
        topOfWholeAndBrokenPeaks();
        topFromTheLeft();
        topAtEachPiece();
        topWhereThePeakLies();
        endsWithoutWrapAround();
        Checks.finish("ShapeEdgesTest");
    }

    /** What a function answers for the four shapes, and what it answers turned upside down. */
    private static void shapes(String what, String due, int[]... rows) {
        SmoothPieces x = new SmoothPieces();
        Checks.fill(x, 0, rows);
        x.pieces(1, rows.length);
        Checks.due(what + ": upside down", x.mix(1, 0, -1, 0, 0), 1);
        String upsideDown = "" + due.charAt(1) + due.charAt(0) + due.charAt(3) + due.charAt(2);
        for (int shape = 1; shape <= 4; shape++) {
            Checks.due(what + ", shape " + shape, x.has(0, shape), due.charAt(shape - 1) - '0');
            Checks.due(what + ", upside down, shape " + shape, x.has(1, shape), upsideDown.charAt(shape - 1) - '0');
        }
    }

    /** "at no later x the VALUE is less than at an earlier one": a VALUE that stays is neither less nor more. */
    private static void level() {
        shapes("all 0", "1111", LEVEL);
        shapes("level", "1111", Checks.row(5, 0, 0), Checks.row(5, 0, 0));
        shapes("straight up", "1011", Checks.row(5, 1, 0), Checks.row(6, 1, 0));
        shapes("level, then up", "1010", Checks.row(5, 0, 0), Checks.row(5, 1, 0));
        shapes("up, then level", "1001", Checks.row(5, 1, 0), Checks.row(6, 0, 0));
    }

    private static void risingInsideAPiece() {
        shapes("slope 0 at first", "1010", Checks.row(0, 0, 1));
        shapes("slope -1 at first", "0010", Checks.row(0, -1, 1));
        shapes("slope -1 at first, 1 at last, as high as at first", "0010", Checks.row(7, -1, 1));
        shapes("slope -1 at first, far up at last", "0010", Checks.row(0, -1, 1000));
        shapes("slope 0 at last", "1001", Checks.row(0, 2, -1));
        shapes("slope -1 at last", "0001", Checks.row(0, 3, -2));
        shapes("slope -1 at last, far up", "0001", Checks.row(0, 1999, -1000));
        shapes("slope 1 at last", "1001", Checks.row(0, 5, -2));
        shapes("slope 1 at first", "1010", Checks.row(0, 1, 5));
    }

    /** "(also from the left)" */
    private static void risingAtAKnot() {
        shapes("joined", "1001", Checks.row(0, 2, -1), Checks.row(1, 0, 0));
        shapes("a jump up by 1", "1000", Checks.row(0, 2, -1), Checks.row(2, 0, 0));
        shapes("a jump down by 1", "0000", Checks.row(0, 2, -1), Checks.row(0, 0, 0));
        shapes("a jump down by 1, still above the left end", "0000", Checks.row(0, 3, 0), Checks.row(2, 3, 0));
        shapes("a jump down, up again within the piece", "0000", Checks.row(0, 3, 0), Checks.row(2, 100, 0));
    }

    private static void risingAndSteps() {
        shapes("steps up", "1000", Checks.row(0, 0, 0), Checks.row(1, 0, 0), Checks.row(2, 0, 0));
        shapes("steps down", "0100", Checks.row(2, 0, 0), Checks.row(1, 0, 0), Checks.row(0, 0, 0));
        shapes("a step up and one down", "0000", Checks.row(0, 0, 0), Checks.row(1, 0, 0), Checks.row(0, 0, 0));
        shapes("rises, then falls", "0001", Checks.row(0, 1, 0), Checks.row(1, -1, 0));
        shapes("falls, then rises", "0010", Checks.row(0, -1, 0), Checks.row(-1, 1, 0));
    }

    /** "the slope is at no later x less than at an earlier one" */
    private static void bentInsideAPiece() {
        shapes("c = 1", "0010", Checks.row(0, -1, 1));
        shapes("c = -1", "0001", Checks.row(0, 1, -1));
        shapes("c = 1, then 0", "1010", Checks.row(0, 0, 1), Checks.row(1, 2, 0));
        shapes("c = 1, then -1", "1000", Checks.row(0, 0, 1), Checks.row(1, 2, -1));
        shapes("c = 0, then -1", "0001", Checks.row(0, 1, 0), Checks.row(1, 1, -1));
    }

    /** "(from the left, from the right)" */
    private static void bentAtAKnot() {
        shapes("slope is the same", "1010", Checks.row(0, 1, 1), Checks.row(2, 3, 1));
        shapes("slope more by 1", "1010", Checks.row(0, 1, 1), Checks.row(2, 4, 1));
        shapes("slope less by 1", "1000", Checks.row(0, 1, 1), Checks.row(2, 2, 1));
        shapes("slope less by 1, more than at first", "1000", Checks.row(0, 1, 5), Checks.row(6, 10, 5));
        shapes("straight, slope more by 1", "1010", Checks.row(0, 1, 0), Checks.row(1, 2, 0));
        shapes("straight, slope less by 1", "1001", Checks.row(0, 2, 0), Checks.row(2, 1, 0));
    }

    /** "BENT UP: JOIN is 0 or more at each KNOT" */
    private static void bentOnlyWhereJoined() {
        shapes("JOIN 0", "0010", Checks.row(0, -1, 0), Checks.row(-1, 5, 0));
        shapes("JOIN 1", "1010", Checks.row(0, 1, 0), Checks.row(1, 1, 1));
        shapes("JOIN 2", "1010", Checks.row(0, 1, 1), Checks.row(2, 3, 1));
        shapes("JOIN -1, all 0 but a step", "1000", Checks.row(0, 0, 0), Checks.row(1, 0, 0));
        shapes("JOIN -1 up, slopes as they should", "1000", Checks.row(0, 1, 1), Checks.row(3, 3, 1));
        shapes("JOIN -1 down, slopes as they should", "0000", Checks.row(0, 1, 1), Checks.row(1, 3, 1));
        shapes("JOIN -1 at the second knot", "1000", Checks.row(0, 1, 0), Checks.row(1, 1, 0), Checks.row(3, 1, 0));
    }

    /** All of sixteen pieces but one are as they should. */
    private static void oneBadPieceOfSixteen() {
        for (int bad = 0; bad < 16; bad++) {
            SmoothPieces x = new SmoothPieces();
            x.pieces(0, 16);
            for (int i = 0; i < 16; i++) {
                x.piece(0, i, i * i, 2 * i, 1);
            }
            Checks.due("rises", x.has(0, 1), 1);
            Checks.due("is bent up", x.has(0, 3), 1);
            Checks.due("is smooth", x.count(0, 2), 15);
            x.piece(0, bad, bad * bad, 2 * bad + 2, -1);
            Checks.due("still rises, piece " + bad, x.has(0, 1), 1);
            Checks.due("not bent up, piece " + bad, x.has(0, 3), 0);
            x.piece(0, bad, bad * bad, 4 * bad + 3, -2 * bad - 2);
            Checks.due("falls at last, piece " + bad, x.has(0, 1), 0);
            x.piece(0, bad, bad * bad, -1, 2 * bad + 2);
            Checks.due("falls at first, piece " + bad, x.has(0, 1), 0);
            x.piece(0, bad, bad * bad + 1, 2 * bad, 1);
            Checks.due("a jump down, knot " + (bad + 1), x.has(0, 1), bad == 15 ? 1 : 0);
            Checks.due("a jump is not bent up, knot " + bad, x.has(0, 3), 0);
            Checks.due("jumps", x.count(0, 1), bad == 0 || bad == 15 ? 1 : 2);
        }
    }

    private static void shapesWithoutWrapAround() {
        shapes("great, rising", "1000", Checks.row(-100000, 100000, 100000), Checks.row(100000, 100000, 0));
        shapes("great, bent up", "0010", Checks.row(-100000, -100000, 100000), Checks.row(-100000, 100000, 100000));
    }

    private static void ends(String what, int top, int bottom, int[]... rows) {
        SmoothPieces x = new SmoothPieces();
        Checks.fill(x, 0, rows);
        x.pieces(1, rows.length);
        Checks.due(what + ": upside down", x.mix(1, 0, -1, 0, 0), 1);
        Checks.due(what + ": top", x.end(0, 0), top);
        Checks.due(what + ": bottom", x.end(0, 1), bottom);
        Checks.due(what + ": top upside down", x.end(1, 0), -bottom);
        Checks.due(what + ": bottom upside down", x.end(1, 1), -top);
    }

    /** "TOP is the least whole number that no VALUE is above, BOTTOM the greatest that none is below." */
    private static void topOfWholeAndBrokenPeaks() {
        ends("all 0", 0, 0, LEVEL);
        ends("level", 9, 9, Checks.row(9, 0, 0));
        ends("level below 0", -9, -9, Checks.row(-9, 0, 0));
        ends("a whole peak", 1, 0, Checks.row(0, 4, -4));
        ends("a peak of 5/4", 2, 0, Checks.row(0, 5, -5));
        ends("a peak of 3/4", 1, 0, Checks.row(0, 3, -3));
        ends("a peak a little above 1", 2, -99367, Checks.row(0, 633, -100000));
        ends("a peak a little below 1", 1, -99368, Checks.row(0, 632, -100000));
        ends("a peak a little above a whole one", 26, 0, Checks.row(0, 101, -101));
        ends("a peak of 2500 / 100", 25, 0, Checks.row(0, 100, -100));
        ends("a peak a little below a whole one", 25, 0, Checks.row(0, 99, -99));
        ends("a whole peak below 0", -1, -2, Checks.row(-2, 4, -4));
        ends("a peak of -3/4", 0, -2, Checks.row(-2, 5, -5));
        ends("a peak of -5/4", -1, -2, Checks.row(-2, 3, -3));
        ends("hardly a peak", 1, -99999, Checks.row(0, 1, -100000));
    }

    /** "(from the left, too)" */
    private static void topFromTheLeft() {
        ends("a top from the left alone", 9, 0, Checks.row(0, 0, 9), Checks.row(1, 0, 0));
        ends("a bottom from the left alone", 1, -9, Checks.row(0, 0, -9), Checks.row(1, 0, 0));
        ends("a top at x = n", 9, 0, Checks.row(1, 0, 0), Checks.row(0, 0, 9));
        ends("a top at x = 0", 9, 0, Checks.row(9, -9, 0), Checks.row(0, 1, 0));
        ends("a top at the knot from the right", 9, 0, Checks.row(0, 1, 0), Checks.row(9, -9, 0));
    }

    private static void topAtEachPiece() {
        for (int at = 0; at < 16; at++) {
            SmoothPieces x = new SmoothPieces();
            x.pieces(0, 16);
            x.piece(0, at, 0, 9, -9);
            Checks.due("top in piece " + at, x.end(0, 0), 3);
            Checks.due("bottom of it", x.end(0, 1), 0);
            x.piece(0, at, 0, -9, 9);
            Checks.due("bottom in piece " + at, x.end(0, 1), -3);
            Checks.due("top of it", x.end(0, 0), 0);
            x.piece(0, at, 0, 9, -9);
            x.pieces(0, Math.max(1, at));
            Checks.due("what was behind the last piece is no value", x.end(0, 0), 0);
        }
    }

    private static void topWhereThePeakLies() {
        ends("the peak at t = 0", 5, 4, Checks.row(5, 0, -1));
        ends("the peak at t = 1", 6, 5, Checks.row(5, 2, -1));
        ends("the peak just inside at first", 6, -994, Checks.row(5, 1, -1000));
        ends("the peak just inside at last", 1005, 5, Checks.row(5, 1999, -1000));
        ends("the peak before the piece", 5, -5, Checks.row(5, -5, -5));
        ends("the peak behind the piece", 10, 5, Checks.row(5, 10, -5));
        ends("the peak a little behind the piece", 1006, 5, Checks.row(5, 2001, -1000));
        ends("a valley is no top", 5, 4, Checks.row(5, -4, 4));
        ends("a straight piece has no peak", 8, 5, Checks.row(5, 3, 0));
    }

    private static void endsWithoutWrapAround() {
        ends("a great peak", 125000, 100000, Checks.row(100000, 100000, -100000));
        ends("a great peak, broken", 125000, 100000, Checks.row(100000, 99999, -99999));
        ends("a great peak just before t = 1", 150000, 100000, Checks.row(100000, 100000, -50001));
        ends("the greatest", 300000, 100000, Checks.row(100000, 100000, 100000));
        ends("the least", -100000, -300000, Checks.row(-100000, -100000, -100000));
    }
}
