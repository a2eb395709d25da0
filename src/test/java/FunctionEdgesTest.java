/** The edges of functions, values and joints, sentence by sentence of the document: promises 1 to 6. */
public final class FunctionEdgesTest {
    private FunctionEdgesTest() {
    }

    public static void main(String[] args) {
        the512thCall();
        sixPlaces();
        oneToSixteenPieces();
        atFirstOnePieceAllZero();
        coefficientsToTheirBounds();
        valueByThePieceThatBegins();
        valueByThePieceThatGoesOn();
        valueAtTheRightEnd();
        valueOfEachFraction();
        valueInLowestTerms();
        valueWithoutWrapAround();
        joinAnotherValue();
        joinOtherSlopes();
        joinOtherBends();
        joinAllThree();
        joinWithoutWrapAround();
        Checks.finish("FunctionEdgesTest");
    }

    private static SmoothPieces with(int[]... rows) {
        SmoothPieces x = new SmoothPieces();
        Checks.fill(x, 0, rows);
        return x;
    }

    /** "An object is used for at most 512 calls after it has been made" */
    private static void the512thCall() {
        SmoothPieces x = new SmoothPieces();
        for (int call = 1; call <= 511; call++) {
            Checks.due("call " + call, x.push(5, 1), 1);
        }
        Checks.due("call 512", x.of(5, 0, 0), 511);
        SmoothPieces y = new SmoothPieces();
        for (int call = 1; call <= 510; call++) {
            Checks.due("call " + call + ", refused", y.pieces(6, call), -2);
        }
        Checks.due("call 511", y.point(7), 1);
        Checks.due("call 512", y.clear(), 1);
    }

    /** "FUNCTIONS are in PLACES 0 .. 5." */
    private static void sixPlaces() {
        SmoothPieces x = new SmoothPieces();
        for (int place = 0; place < 6; place++) {
            Checks.due("pieces of place " + place, x.pieces(place, place + 1), 1);
            Checks.due("piece of place " + place, x.piece(place, place, 10 + place, 20 + place, 30 + place), 1);
        }
        for (int place = 0; place < 6; place++) {
            Checks.due("pieces of place " + place, x.count(place, 0), place + 1);
            for (int what = 0; what < 3; what++) {
                Checks.due("place " + place + " has its own", x.of(place, place, what), 10 + 10 * what + place);
            }
        }
        Checks.due("there is no place below 0", x.pieces(-1, 1), -2);
        Checks.due("there is no place above 5", x.pieces(6, 1), -2);
    }

    /** "n 1 .. 16", "A FUNCTION has n PIECES, all 0" */
    private static void oneToSixteenPieces() {
        for (int n = 1; n <= 16; n++) {
            SmoothPieces x = new SmoothPieces();
            Checks.due("16 first", x.pieces(3, 16), 1);
            for (int i = 0; i < 16; i++) {
                x.piece(3, i, 7, 7, 7);
            }
            Checks.due(n + " pieces", x.pieces(3, n), 1);
            Checks.due(n + " pieces", x.count(3, 0), n);
            for (int i = 0; i < n; i++) {
                for (int what = 0; what < 3; what++) {
                    Checks.due("piece " + i + " of " + n + " is 0", x.of(3, i, what), 0);
                }
            }
            Checks.due("no piece behind the last", x.of(3, n, 0), Checks.LEAST_INT);
            Checks.due("the last is set", x.piece(3, n - 1, 1, 1, 1), 1);
            Checks.due("none behind it", x.piece(3, n, 1, 1, 1), -2);
            Checks.due("all 0 again", x.pieces(3, n), 1);
            Checks.due("all 0 again", x.of(3, n - 1, 0), 0);
        }
        SmoothPieces x = new SmoothPieces();
        Checks.due("0 pieces are too few", x.pieces(3, 0), -3);
        Checks.due("17 pieces are too many", x.pieces(3, 17), -3);
        Checks.due("still one", x.count(3, 0), 1);
    }

    /** "at first one PIECE, all 0", "All FUNCTIONS 0, no POINTS." */
    private static void atFirstOnePieceAllZero() {
        for (int place = 0; place < 6; place++) {
            SmoothPieces x = new SmoothPieces();
            Checks.isFilled("new", x, place, Checks.row(0, 0, 0));
            Checks.fraction("new at 0", x, place, 0, 1, 0, 1);
            Checks.fraction("new at 1/3", x, place, 1, 3, 0, 1);
            Checks.fraction("new at 1", x, place, 64, 64, 0, 1);
            Checks.due("new at 65/64", x.value(place, 65, 64, 0), Checks.LEAST_LONG);
            Checks.due("new: no knot inside", x.join(place, 1), -2);
            Checks.due("new: zeros", x.zeros(place), -4);
            Checks.due("new: zero", x.zero(place, 0), -4);
            Checks.due("new: top", x.end(place, 0), 0);
            Checks.due("new: bottom", x.end(place, 1), 0);
            for (int shape = 1; shape <= 4; shape++) {
                Checks.due("new: shape " + shape, x.has(place, shape), 1);
            }
            Checks.due("new: area", x.area(place, 0, 1, 0), 0);
            Checks.due("new: area", x.area(place, 0, 1, 1), 1);
            Checks.due("new: same", x.same(0, place), 1);
            Checks.due("new: meets", x.meets(0, place), -4);
            Checks.due("new: jumps", x.count(place, 1), 0);
            Checks.due("new: smooth knots", x.count(place, 2), 0);
            Checks.due("new: second piece", x.piece(place, 1, 1, 1, 1), -2);
        }
        SmoothPieces x = new SmoothPieces();
        Checks.due("new: bend without points", x.bend(0), -4);
        Checks.due("new: no points", x.clear(), 0);
        Checks.due("new: the first point", x.point(0), 1);
    }

    /** "with whole a, b, c, each -100000 .. 100000" */
    private static void coefficientsToTheirBounds() {
        for (int i = 0; i < 16; i += 15) {
            for (int sign = -1; sign <= 1; sign += 2) {
                SmoothPieces x = new SmoothPieces();
                x.pieces(2, 16);
                int most = sign * 100000;
                int beyond = sign * 100001;
                Checks.due("a at its bound", x.piece(2, i, most, 1, 2), 1);
                Checks.due("a at its bound", x.of(2, i, 0), most);
                Checks.due("a beyond it", x.piece(2, i, beyond, 3, 3), -5);
                Checks.due("a stays", x.of(2, i, 0), most);
                Checks.due("b stays", x.of(2, i, 1), 1);
                Checks.due("b at its bound", x.piece(2, i, 1, most, 2), 1);
                Checks.due("b at its bound", x.of(2, i, 1), most);
                Checks.due("b beyond it", x.piece(2, i, 3, beyond, 3), -5);
                Checks.due("b stays", x.of(2, i, 1), most);
                Checks.due("c stays", x.of(2, i, 2), 2);
                Checks.due("c at its bound", x.piece(2, i, 1, 2, most), 1);
                Checks.due("c at its bound", x.of(2, i, 2), most);
                Checks.due("c beyond it", x.piece(2, i, 3, 3, beyond), -5);
                Checks.due("c stays", x.of(2, i, 2), most);
                Checks.due("a stays", x.of(2, i, 0), 1);
                Checks.due("all at their bounds", x.piece(2, i, most, most, most), 1);
                Checks.due("all beyond", x.piece(2, i, beyond, beyond, beyond), -5);
            }
        }
    }

    /** "The VALUE at x is by the PIECE that begins there" */
    private static void valueByThePieceThatBegins() {
        SmoothPieces x = new SmoothPieces();
        x.pieces(0, 16);
        for (int i = 0; i < 16; i++) {
            x.piece(0, i, 100 + i, 1000, 10000);
        }
        for (int i = 0; i < 16; i++) {
            Checks.fraction("at knot " + i, x, 0, i, 1, 100 + i, 1);
            Checks.fraction("at knot " + i + " by 64", x, 0, 64 * i, 64, 100 + i, 1);
        }
    }

    /** "or goes on over x", "for x = i + t, t from 0 to 1" */
    private static void valueByThePieceThatGoesOn() {
        SmoothPieces x = new SmoothPieces();
        x.pieces(0, 16);
        for (int i = 0; i < 16; i++) {
            x.piece(0, i, 100 * i, 64, 4096);
        }
        for (int i = 0; i < 16; i++) {
            Checks.fraction("just behind knot " + i, x, 0, 64 * i + 1, 64, 100 * i + 1 + 1, 1);
            Checks.fraction("in the middle of piece " + i, x, 0, 2 * i + 1, 2, 100 * i + 32 + 1024, 1);
            Checks.fraction("just before knot " + (i + 1), x, 0, 64 * i + 63, 64, 100 * i + 63 + 63 * 63, 1);
        }
    }

    /** "at x = n by the last one", "x from 0 to n" */
    private static void valueAtTheRightEnd() {
        for (int n = 1; n <= 16; n++) {
            SmoothPieces x = new SmoothPieces();
            x.pieces(1, 16);
            for (int i = 0; i < 16; i++) {
                x.piece(1, i, 9000, 9000, 9000);
            }
            x.pieces(1, n);
            x.piece(1, n - 1, 5, 30, 400);
            for (int v : new int[] {1, 2, 63, 64}) {
                Checks.fraction("at x = n = " + n, x, 1, n * v, v, 435, 1);
                Checks.due("behind n = " + n, x.value(1, n * v + 1, v, 0), Checks.LEAST_LONG);
                Checks.due("behind n = " + n, x.value(1, n * v + 1, v, 1), Checks.LEAST_LONG);
                Checks.due("before 0", x.value(1, -1, v, 0), Checks.LEAST_LONG);
            }
        }
    }

    /** "v 1 .. 64" */
    private static void valueOfEachFraction() {
        for (int v = 1; v <= 64; v++) {
            SmoothPieces x = with(Checks.row(0, 1, 0), Checks.row(1, 1, 0));
            Checks.due("x at 1 / v, numerator", x.value(0, 1, v, 0), 1);
            Checks.due("x at 1 / v, denominator", x.value(0, 1, v, 1), v);
            Checks.due("x at (2 v - 1) / v, numerator", x.value(0, 2 * v - 1, v, 0), 2 * v - 1);
            Checks.due("x at (2 v - 1) / v, denominator", x.value(0, 2 * v - 1, v, 1), v);
        }
        SmoothPieces x = with(Checks.row(1, 0, 0));
        Checks.due("v 0", x.value(0, 0, 0, 0), Checks.LEAST_LONG);
        Checks.due("v 65", x.value(0, 0, 65, 0), Checks.LEAST_LONG);
        Checks.due("v -1", x.value(0, 0, -1, 0), Checks.LEAST_LONG);
        Checks.due("both below 0", x.value(0, -1, -2, 0), Checks.LEAST_LONG);
    }

    /** "in lowest terms: numerator (part 0), denominator (1; above 0)" */
    private static void valueInLowestTerms() {
        SmoothPieces x = with(Checks.row(-1, 0, 1), Checks.row(0, 6, 0), Checks.row(-3, 1, 1));
        Checks.fraction("below 0", x, 0, 1, 2, -3, 4);
        Checks.fraction("below 0, of 64", x, 0, 32, 64, -3, 4);
        Checks.fraction("a whole number of 36", x, 0, 7, 6, 1, 1);
        Checks.fraction("0 is 0 / 1", x, 0, 64, 64, 0, 1);
        Checks.fraction("of 9", x, 0, 7, 3, -23, 9);
        Checks.fraction("t t + t has 2 in it", x, 0, 5, 2, -9, 4);
        x = with(Checks.row(-2, 4, 0));
        Checks.fraction("0 inside", x, 0, 16, 32, 0, 1);
        Checks.fraction("v v is cut to v", x, 0, 1, 7, -10, 7);
        Checks.fraction("v v is cut to less than v", x, 0, 1, 64, -31, 16);
        x = with(Checks.row(0, 0, 1));
        Checks.fraction("v v is not cut", x, 0, 61, 62, 61 * 61, 62 * 62);
        Checks.fraction("v v is not cut", x, 0, 63, 64, 63 * 63, 64 * 64);
    }

    private static void valueWithoutWrapAround() {
        SmoothPieces x = with(Checks.row(100000, 100000, 100000), Checks.row(-100000, -100000, -100000));
        // 62 * 62 + 61 * 62 + 61 * 61 = 11347; of 62 * 62 = 4 * 961 the 4 is in 100000, too
        Checks.fraction("great", x, 0, 61, 62, 25000L * 11347, 961);
        Checks.fraction("great below 0", x, 0, 123, 62, -25000L * 11347, 961);
        Checks.fraction("the greatest", x, 0, 2, 1, -300000, 1);
        x = with(Checks.row(99999, 99999, 99999));
        Checks.fraction("beyond an int", x, 0, 63, 64, 99999L * (4096 + 4032 + 3969), 4096);
        Checks.holds("beyond an int", 99999L * (4096 + 4032 + 3969) > 1000000000L);
    }

    /** The two pieces as the first and second of two, and as the last two of sixteen. */
    private static void joins(String what, int[] left, int[] right, int due) {
        SmoothPieces x = with(left, right);
        Checks.due(what, x.join(0, 1), due);
        Checks.due(what + ": jumps", x.count(0, 1), due == -1 ? 1 : 0);
        Checks.due(what + ": smooth knots", x.count(0, 2), due == 2 ? 1 : 0);
        x.pieces(1, 16);
        x.piece(1, 14, left[0], left[1], left[2]);
        x.piece(1, 15, right[0], right[1], right[2]);
        Checks.due(what + ", at the last knot of 16", x.join(1, 15), due);
        Checks.due(what + ", at the first knot of 16", x.join(1, 1), 2);
    }

    /** "JOIN at a KNOT: -1 the VALUE from the left is another one" */
    private static void joinAnotherValue() {
        joins("less by 1 from the left", Checks.row(1, 2, 3), Checks.row(7, 8, 3), -1);
        joins("more by 1 from the left", Checks.row(1, 2, 3), Checks.row(5, 8, 3), -1);
        joins("a at t = 0 is no value from the left", Checks.row(6, 2, 3), Checks.row(6, 8, 3), -1);
        joins("a + b is none either", Checks.row(1, 5, 3), Checks.row(6, 11, 3), -1);
        joins("all else is other, too", Checks.row(1, 2, 3), Checks.row(7, 7, 7), -1);
    }

    /** "0 that is the same, slopes are not" */
    private static void joinOtherSlopes() {
        joins("slope less by 1", Checks.row(1, 2, 3), Checks.row(6, 7, 3), 0);
        joins("slope more by 1", Checks.row(1, 2, 3), Checks.row(6, 9, 3), 0);
        joins("b is no slope from the left", Checks.row(1, 2, 3), Checks.row(6, 2, 3), 0);
        joins("b + c is none either", Checks.row(1, 2, 3), Checks.row(6, 5, 3), 0);
        joins("bends are other, too", Checks.row(1, 2, 3), Checks.row(6, 7, 4), 0);
        joins("slopes of other signs", Checks.row(0, 1, 0), Checks.row(1, -1, 0), 0);
    }

    /** "1 both are, bends are not" */
    private static void joinOtherBends() {
        joins("bend less by 2", Checks.row(1, 2, 3), Checks.row(6, 8, 2), 1);
        joins("bend more by 2", Checks.row(1, 2, 3), Checks.row(6, 8, 4), 1);
        joins("bends of other signs", Checks.row(1, 2, 3), Checks.row(6, 8, -3), 1);
    }

    /** "2 all three" */
    private static void joinAllThree() {
        joins("all three", Checks.row(1, 2, 3), Checks.row(6, 8, 3), 2);
        joins("all three, straight", Checks.row(1, 2, 0), Checks.row(3, 2, 0), 2);
        joins("all three, level", Checks.row(4, 0, 0), Checks.row(4, 0, 0), 2);
        joins("all three, bent down", Checks.row(1, 0, -1), Checks.row(0, -2, -1), 2);
    }

    private static void joinWithoutWrapAround() {
        joins("value at the bound", Checks.row(100000, 100000, -100000), Checks.row(100000, -100000, -100000), 2);
        joins("value beyond the bound", Checks.row(100000, 100000, 100000), Checks.row(100000, 0, 0), -1);
        joins("slope beyond the bound", Checks.row(-100000, 100000, 100000), Checks.row(100000, 100000, 100000), 0);
    }
}
