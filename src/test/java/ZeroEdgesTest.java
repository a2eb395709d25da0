/** The edges of zeros, boxes, areas, same ones and meets, sentence by sentence of the document: promises 9 to 13. */
public final class ZeroEdgesTest {
    private ZeroEdgesTest() {
    }

    public static void main(String[] args) {
        zeroAtTheLeftEnd();
        zeroAtTheRightEnd();
        zeroAtAKnot();
        zeroFromTheLeftAlone();
        zeroTouched();
        zeroPairs();
        noZeros();
        zerosAsTheyRise();
        asManyAsThereCanBe();
        pieceZeroThroughout();
        pieceNearlyZeroThroughout();
        boxAtItsEdge();
        boxOfEachEdge();
        boxOfRootsThatAreNoFractions();
        boxesWithoutWrapAround();
        areaOfNothing();
        areaOfAllKnots();
        areaInLowestTerms();
        areaWithoutWrapAround();
        sameOnlyIfAllIs();
        meetsOfAsManyPieces();
        meetsThroughoutAPiece();
        meetsAtKnots();
        meetsBeyondTheBounds();
        Checks.finish("ZeroEdgesTest");
    }

    private static SmoothPieces with(int[]... rows) {
        SmoothPieces x = new SmoothPieces();
        Checks.fill(x, 0, rows);
        return x;
    }

    /** The zeros of a function, and of the same one upside down. */
    private static void zeros(String what, int[] boxes, int[]... rows) {
        SmoothPieces x = with(rows);
        Checks.boxes(what, x, 0, boxes);
        Checks.due(what + ": upside down", x.mix(1, 0, -1, 0, 0), 1);
        Checks.boxes(what + ", upside down", x, 1, boxes);
    }

    private static int[] at(int... boxes) {
        return boxes;
    }

    /** "ZEROS are all x with VALUE 0" */
    private static void zeroAtTheLeftEnd() {
        zeros("at x = 0, rising", at(0), Checks.row(0, 1, 0));
        zeros("at x = 0, touched", at(0), Checks.row(0, 0, 1));
        zeros("at x = 0, another behind the piece", at(0), Checks.row(0, -2, 1));
        zeros("at x = 0, another before the piece", at(0), Checks.row(0, 2, 1));
        zeros("at x = 0 and inside", at(0, 32), Checks.row(0, -1, 2));
        zeros("just before x = 0", at(), Checks.row(1, 100000, 0));
        zeros("just before x = 0, by a bend", at(), Checks.row(1, 100000, 100000));
    }

    /** "at x = n by the last one" */
    private static void zeroAtTheRightEnd() {
        zeros("at x = n = 1, rising", at(64), Checks.row(-1, 1, 0));
        zeros("at x = n, touched", at(64), Checks.row(1, -2, 1));
        zeros("at x = n, another behind", at(64), Checks.row(2, -3, 1));
        zeros("at x = n, another before 0", at(64), Checks.row(-2, 1, 1));
        zeros("at x = n and inside", at(32, 64), Checks.row(1, -3, 2));
        zeros("at both ends", at(0, 64), Checks.row(0, -1, 1));
        zeros("just behind x = n", at(), Checks.row(-100000, 99999, 0));
        zeros("just before x = n", at(63), Checks.row(-99999, 100000, 0));
        SmoothPieces x = new SmoothPieces();
        x.pieces(0, 16);
        for (int i = 0; i < 16; i++) {
            x.piece(0, i, 5, 0, 0);
        }
        x.piece(0, 15, 5, -5, 0);
        Checks.boxes("at x = 16", x, 0, 1024);
        x.piece(0, 15, 5, 0, 0);
        x.piece(0, 14, 5, -5, 0);
        Checks.boxes("at x = 15 from the left alone", x, 0);
    }

    /** "The VALUE at x is by the PIECE that begins there" */
    private static void zeroAtAKnot() {
        zeros("at a knot, by both pieces: once", at(64), Checks.row(1, -1, 0), Checks.row(0, 1, 0));
        zeros("at a knot, by the right piece alone", at(64), Checks.row(1, 1, 0), Checks.row(0, 1, 0));
        zeros("at a knot, touched by both", at(64), Checks.row(1, -2, 1), Checks.row(0, 0, 1));
        zeros("at each knot", at(0, 64, 128, 192), Checks.row(0, 1, -1), Checks.row(0, 1, -1), Checks.row(0, 1, -1));
        zeros("a jump over 0 is no zero", at(), Checks.row(-1, 0, 0), Checks.row(1, 0, 0));
    }

    /** "(not from the left alone)" */
    private static void zeroFromTheLeftAlone() {
        zeros("straight", at(), Checks.row(1, -1, 0), Checks.row(1, 0, 0));
        zeros("touched", at(), Checks.row(1, -2, 1), Checks.row(1, 0, 0));
        zeros("one of two", at(32), Checks.row(1, -3, 2), Checks.row(1, 0, 0));
        zeros("the lesser of two, the other behind", at(), Checks.row(2, -3, 1), Checks.row(1, 0, 0));
        zeros("at the knot before the last", at(192), Checks.row(1, 0, 0), Checks.row(1, -1, 0), Checks.row(1, -1, 0));
    }

    private static void zeroTouched() {
        zeros("touched at 1/2: once", at(32), Checks.row(1, -4, 4));
        zeros("touched at 1/3: once", at(21), Checks.row(1, -6, 9));
        zeros("touched at 2/3: once", at(42), Checks.row(4, -12, 9));
        zeros("missed by a little", at(), Checks.row(25001, -100000, 100000));
        zeros("cut a little", at(31, 32), Checks.row(24999, -100000, 100000));
    }

    private static void zeroPairs() {
        zeros("two in one box, each with its number", at(0, 0), Checks.row(1, -300, 20000));
        zeros("two in one box in the middle", at(32, 32), Checks.row(5100, -20249, 20099));
        zeros("one before, one behind the piece", at(), Checks.row(-1, 0, 0), Checks.row(-5, 1, 1));
        zeros("one before, one inside", at(32), Checks.row(-3, 4, 4));
        zeros("one inside, one behind", at(32), Checks.row(3, -8, 4));
    }

    private static void noZeros() {
        zeros("level above 0", at(), Checks.row(1, 0, 0));
        zeros("level, great", at(), Checks.row(100000, 0, 0));
        zeros("no root", at(), Checks.row(1, 0, 1));
        zeros("no root, straight and bent", at(), Checks.row(1, 1, 1));
        zeros("both roots before", at(), Checks.row(2, 3, 1));
        zeros("both roots behind", at(), Checks.row(6, -5, 1));
        SmoothPieces x = with(Checks.row(1, 0, 0));
        Checks.due("zero 0 of none", x.zero(0, 0), -2);
    }

    /** "numbered from 0 as they rise" */
    private static void zerosAsTheyRise() {
        zeros("c above 0", at(16, 48), Checks.row(3, -16, 16));
        zeros("then c below 0", at(16, 48, 80, 112), Checks.row(3, -16, 16), Checks.row(-3, 16, -16));
        zeros("with a piece without between", at(16, 48, 144, 176), Checks.row(3, -16, 16), Checks.row(1, 0, 0),
                Checks.row(3, -16, 16));
    }

    private static void asManyAsThereCanBe() {
        SmoothPieces x = new SmoothPieces();
        x.pieces(0, 16);
        for (int i = 0; i < 16; i++) {
            x.piece(0, i, 0, i % 2 == 0 ? 1 : -1, i % 2 == 0 ? -2 : 2);
        }
        x.piece(0, 15, 1, -3, 2);
        Checks.due("two in each piece", x.zeros(0), 32);
        Checks.due("the first", x.zero(0, 0), 0);
        Checks.due("the last but one", x.zero(0, 30), 64 * 15 + 32);
        Checks.due("the last, at x = 16", x.zero(0, 31), 1024);
        Checks.due("none behind it", x.zero(0, 32), -2);
    }

    /** "none are told, if a PIECE is 0 throughout" */
    private static void pieceZeroThroughout() {
        for (int at = 0; at < 16; at++) {
            SmoothPieces x = new SmoothPieces();
            x.pieces(0, 16);
            for (int i = 0; i < 16; i++) {
                x.piece(0, i, -1, 2, 0);
            }
            Checks.due("all told", x.zeros(0), 16);
            x.piece(0, at, 0, 0, 0);
            Checks.due("piece " + at + " is 0", x.zeros(0), -4);
            Checks.due("piece " + at + " is 0: zero 0", x.zero(0, 0), -4);
            Checks.due("piece " + at + " is 0: zero 15", x.zero(0, 15), -4);
            Checks.due("piece " + at + " is 0: no such zero", x.zero(0, 99), -4);
            Checks.due("piece " + at + " is 0: no such zero", x.zero(0, -1), -4);
            x.piece(0, at, 1, 0, 0);
            Checks.due("told again", x.zeros(0), 15);
        }
        SmoothPieces x = new SmoothPieces();
        x.pieces(0, 16);
        x.pieces(0, 2);
        x.piece(0, 0, 1, 0, 0);
        x.piece(0, 1, -1, 2, 0);
        Checks.due("what is behind the last piece does not count", x.zeros(0), 1);
    }

    private static void pieceNearlyZeroThroughout() {
        zeros("a alone is not 0", at(), Checks.row(1, 0, 0));
        zeros("b alone is not 0", at(0), Checks.row(0, 1, 0));
        zeros("c alone is not 0", at(0), Checks.row(0, 0, 1));
    }

    /** "BOX of a ZERO: 64 x, cut to a whole number." */
    private static void boxAtItsEdge() {
        zeros("at 1/64", at(1), Checks.row(-1, 64, 0));
        zeros("just before 1/64", at(0), Checks.row(-1, 65, 0));
        zeros("just behind 1/64", at(1), Checks.row(-1, 63, 0));
        zeros("at 63/64", at(63), Checks.row(-63, 64, 0));
        zeros("just before 63/64", at(62), Checks.row(-62999, 64000, 0));
        zeros("just behind 63/64", at(63), Checks.row(-63001, 64000, 0));
        zeros("not the nearest whole number", at(0), Checks.row(-1, 100, 0));
        zeros("63.999 is cut", at(63), Checks.row(-99998, 99999, 0));
        zeros("in the second piece", at(64), Checks.row(1, 0, 0), Checks.row(-1, 65, 0));
    }

    private static void boxOfEachEdge() {
        for (int box = 0; box <= 64; box++) {
            SmoothPieces x = with(Checks.row(-box, 64, 0), Checks.row(1, 0, 0));
            Checks.due("straight, at the edge of " + box, x.zeros(0), box == 64 ? 0 : 1);
            Checks.due("straight, at the edge of " + box, x.zero(0, 0), box == 64 ? -2 : box);
            x = with(Checks.row(box * box, -128 * box, 4096));
            Checks.due("touched at the edge of " + box, x.zeros(0), 1);
            Checks.due("touched at the edge of " + box, x.zero(0, 0), box);
            x = with(Checks.row(box * box, 0, -4096));
            Checks.due("a root at the edge of " + box, x.zero(0, 0), box);
            if (box < 64) {
                x = with(Checks.row(-box * 1000 - 1, 64000, 0));
                Checks.due("behind the edge of " + box, x.zero(0, 0), box);
                x = with(Checks.row(-box * 1000 - 999, 64000, 0));
                Checks.due("before the next edge behind " + box, x.zero(0, 0), box);
            }
        }
    }

    private static void boxOfRootsThatAreNoFractions() {
        zeros("root of 1/2, 45.25", at(45), Checks.row(-1, 0, 2));
        zeros("root of 1/3, 36.95", at(36), Checks.row(-1, 0, 3));
        zeros("root of 4095 / 4096", at(63), Checks.row(-4095, 0, 4096));
        zeros("root of 1 / 4095, hardly above 1", at(1), Checks.row(-1, 0, 4095));
        zeros("root of 1 / 4097, hardly below 1", at(0), Checks.row(-1, 0, 4097));
        zeros("two, by a root of 5", at(17, 46), Checks.row(1, -5, 5));
    }

    private static void boxesWithoutWrapAround() {
        zeros("great a, b, c", at(39), Checks.row(-100000, 100000, 100000));
        zeros("great a, b, c, falling", at(39), Checks.row(100000, -100000, -100000));
        zeros("great b and c", at(0, 64), Checks.row(0, -100000, 100000));
        zeros("great and no root", at(), Checks.row(100000, 100000, 100000));
        zeros("great and no root, b below 0", at(), Checks.row(100000, -100000, 100000));
    }

    private static void area(SmoothPieces x, String what, int i, int j, long numerator, long denominator) {
        Checks.due(what + ": numerator", x.area(0, i, j, 0), numerator);
        Checks.due(what + ": denominator", x.area(0, i, j, 1), denominator);
    }

    /** "i not above j": i = j has no PIECES between. */
    private static void areaOfNothing() {
        SmoothPieces x = new SmoothPieces();
        x.pieces(0, 16);
        for (int i = 0; i < 16; i++) {
            x.piece(0, i, 1, 1, 1);
        }
        for (int knot = 0; knot <= 16; knot++) {
            area(x, "from " + knot + " to " + knot, knot, knot, 0, 1);
        }
        for (int knot = 0; knot < 16; knot++) {
            Checks.due("i above j by one", x.area(0, knot + 1, knot, 0), Checks.LEAST_LONG);
        }
    }

    /** "AREA from KNOT i to KNOT j: all PIECES between them" "(0 .. n)" */
    private static void areaOfAllKnots() {
        SmoothPieces x = new SmoothPieces();
        x.pieces(0, 16);
        for (int i = 0; i < 16; i++) {
            x.piece(0, i, 1 << i, 0, 0);
        }
        for (int i = 0; i <= 16; i += 2) {
            for (int j = i; j <= 16; j++) {
                area(x, "from " + i + " to " + j, i, j, (1L << j) - (1L << i), 1);
            }
        }
        x.pieces(0, 2);
        x.piece(0, 1, 9, 0, 0);
        area(x, "to n", 0, 2, 9, 1);
        Checks.due("to n + 1", x.area(0, 0, 3, 0), Checks.LEAST_LONG);
        Checks.due("from n + 1", x.area(0, 3, 3, 0), Checks.LEAST_LONG);
        Checks.due("from -1", x.area(0, -1, 2, 0), Checks.LEAST_LONG);
    }

    /** "numerator (part 0), denominator (1) in lowest terms" */
    private static void areaInLowestTerms() {
        area(with(Checks.row(0, 1, 0)), "1/2", 0, 1, 1, 2);
        area(with(Checks.row(0, 0, 1)), "1/3", 0, 1, 1, 3);
        area(with(Checks.row(0, 1, 1)), "5/6", 0, 1, 5, 6);
        area(with(Checks.row(0, -1, 0)), "-1/2", 0, 1, -1, 2);
        area(with(Checks.row(0, 0, -1)), "-1/3", 0, 1, -1, 3);
        area(with(Checks.row(0, -1, -1)), "-5/6", 0, 1, -5, 6);
        area(with(Checks.row(0, 2, 3)), "a whole one", 0, 1, 2, 1);
        area(with(Checks.row(0, -2, 3)), "0 is 0 / 1", 0, 1, 0, 1);
        area(with(Checks.row(0, 1, 0), Checks.row(0, 1, 0)), "halves together", 0, 2, 1, 1);
        area(with(Checks.row(0, 0, 1), Checks.row(0, 0, 1), Checks.row(0, 0, 1)), "thirds together", 0, 3, 1, 1);
        area(with(Checks.row(0, 1, 0), Checks.row(0, 0, -1)), "1/6", 0, 2, 1, 6);
    }

    private static void areaWithoutWrapAround() {
        SmoothPieces x = new SmoothPieces();
        x.pieces(0, 16);
        for (int i = 0; i < 16; i++) {
            x.piece(0, i, 100000, 100000, 100000);
        }
        area(x, "the greatest", 0, 16, 8800000, 3);
        x.pieces(0, 16);
        for (int i = 0; i < 16; i++) {
            x.piece(0, i, -100000, -100000, -100000);
        }
        area(x, "the least", 0, 16, -8800000, 3);
    }

    /** "Whether two FUNCTIONS have as many PIECES, and all the same" */
    private static void sameOnlyIfAllIs() {
        for (int at = 0; at < 16; at++) {
            SmoothPieces x = new SmoothPieces();
            x.pieces(1, 16);
            x.pieces(2, 16);
            Checks.due("the same", x.same(1, 2), 1);
            for (int k = 0; k < 3; k++) {
                x.piece(2, at, k == 0 ? 1 : 0, k == 1 ? 1 : 0, k == 2 ? 1 : 0);
                Checks.due("another " + k + " in piece " + at, x.same(1, 2), 0);
                Checks.due("another " + k + " in piece " + at, x.same(2, 1), 0);
            }
            Checks.due("itself", x.same(2, 2), 1);
            x.piece(1, at, 0, 0, 1);
            Checks.due("the same again", x.same(1, 2), 1);
        }
        SmoothPieces x = new SmoothPieces();
        x.pieces(1, 2);
        Checks.due("the same as far as it goes", x.same(0, 1), 0);
        Checks.due("the same as far as it goes", x.same(1, 0), 0);
    }

    /** "two FUNCTIONS of as many PIECES", "NOT: not as many PIECES" */
    private static void meetsOfAsManyPieces() {
        SmoothPieces x = with(Checks.row(-1, 2, 0));
        x.pieces(1, 2);
        Checks.due("one more", x.meets(0, 1), -4);
        Checks.due("one less", x.meets(1, 0), -4);
        x.pieces(1, 1);
        Checks.due("as many", x.meets(0, 1), 1);
        Checks.due("as many", x.meets(1, 0), 1);
        x.pieces(1, 16);
        x.pieces(2, 15);
        Checks.due("16 and 15", x.meets(1, 2), -4);
    }

    /** "or they are the same throughout a PIECE" */
    private static void meetsThroughoutAPiece() {
        for (int at = 0; at < 16; at++) {
            SmoothPieces x = new SmoothPieces();
            x.pieces(0, 16);
            x.pieces(1, 16);
            for (int i = 0; i < 16; i++) {
                x.piece(0, i, 4, 5, 6);
                x.piece(1, i, 5, 3, 6);
            }
            Checks.due("one meet a piece", x.meets(0, 1), 16);
            x.piece(1, at, 4, 5, 6);
            Checks.due("the same in piece " + at, x.meets(0, 1), -4);
            Checks.due("the same in piece " + at, x.meets(1, 0), -4);
            x.piece(1, at, 4, 5, 7);
            Checks.due("not throughout", x.meets(0, 1), 16);
            x.piece(1, at, 4, 6, 6);
            Checks.due("not throughout", x.meets(1, 0), 16);
            x.piece(1, at, 3, 5, 6);
            Checks.due("nowhere in piece " + at, x.meets(1, 0), 15);
        }
        SmoothPieces x = new SmoothPieces();
        Checks.due("itself", x.meets(3, 3), -4);
    }

    /** "ZEROS of the one less the other" */
    private static void meetsAtKnots() {
        SmoothPieces x = with(Checks.row(1, 0, 0), Checks.row(5, 0, 0));
        Checks.fill(x, 1, Checks.row(0, 1, 0), Checks.row(4, 0, 0));
        Checks.due("from the left alone", x.meets(0, 1), 0);
        Checks.fill(x, 1, Checks.row(0, 1, 0), Checks.row(5, 1, 0));
        Checks.due("at the knot from both sides: once", x.meets(0, 1), 1);
        Checks.fill(x, 1, Checks.row(0, 0, 0), Checks.row(5, 1, 0));
        Checks.due("at the knot from the right", x.meets(0, 1), 1);
        Checks.fill(x, 1, Checks.row(0, 0, 0), Checks.row(4, 1, 0));
        Checks.due("at x = n", x.meets(0, 1), 1);
        Checks.fill(x, 1, Checks.row(1, 1, 0), Checks.row(4, 0, 0));
        Checks.due("at x = 0", x.meets(0, 1), 1);
        Checks.fill(x, 1, Checks.row(2, -4, 4), Checks.row(4, 0, 0));
        Checks.due("they touch once", x.meets(0, 1), 1);
    }

    private static void meetsBeyondTheBounds() {
        SmoothPieces x = with(Checks.row(50000, -100000, 100000));
        Checks.fill(x, 1, Checks.row(1, 100000, -100000));
        Checks.due("49999 - 200000 t + 200000 t t", x.meets(0, 1), 2);
        Checks.due("the other way round", x.meets(1, 0), 2);
        Checks.fill(x, 1, Checks.row(-1, 100000, -100000));
        Checks.due("50001 - 200000 t + 200000 t t", x.meets(0, 1), 0);
        Checks.fill(x, 0, Checks.row(100000, -100000, -100000));
        Checks.fill(x, 1, Checks.row(-100000, 100000, 100000));
        Checks.due("200000 (1 - t - t t)", x.meets(0, 1), 1);
        Checks.fill(x, 0, Checks.row(100000, 100000, 100000));
        Checks.fill(x, 1, Checks.row(-100000, -100000, -100000));
        Checks.due("200000 (1 + t + t t)", x.meets(0, 1), 0);
        Checks.due("no meet is kept", x.of(0, 0, 0), 100000);
    }
}
