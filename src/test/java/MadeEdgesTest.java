/** The edges of functions made of others, sentence by sentence of the document: promises 14 to 17. */
public final class MadeEdgesTest {
    private MadeEdgesTest() {
    }

    public static void main(String[] args) {
        mixFactorsToTheirBounds();
        mixOfAsManyPieces();
        mixInPlaceOfWhatIsThere();
        mixGreat();
        mixWithoutWrapAround();
        refineEightAtMost();
        refineFourTimesAtHalf();
        refineInPlaceOfWhatIsThere();
        refineGreat();
        slopeOfEachPiece();
        slopeInPlaceOfWhatIsThere();
        slopeGreat();
        pushToItsBounds();
        pushEverywhere();
        pushGreat();
        Checks.finish("MadeEdgesTest");
    }

    private static SmoothPieces with(int[]... rows) {
        SmoothPieces x = new SmoothPieces();
        Checks.fill(x, 0, rows);
        return x;
    }

    /** A row of 0 but for one number: k 0 a, 1 b, 2 c. */
    private static int[] only(int k, int number) {
        int[] row = new int[3];
        row[k] = number;
        return row;
    }

    /** "p times a FUNCTION and q times one" "(p, q -100 .. 100)" */
    private static void mixFactorsToTheirBounds() {
        SmoothPieces x = with(Checks.row(1, 2, 3));
        Checks.fill(x, 1, Checks.row(10, 20, 30));
        Checks.due("p 100", x.mix(2, 0, 100, 1, 0), 1);
        Checks.isFilled("p 100", x, 2, Checks.row(100, 200, 300));
        Checks.due("p -100", x.mix(2, 0, -100, 1, 0), 1);
        Checks.isFilled("p -100", x, 2, Checks.row(-100, -200, -300));
        Checks.due("q 100", x.mix(2, 0, 0, 1, 100), 1);
        Checks.isFilled("q 100", x, 2, Checks.row(1000, 2000, 3000));
        Checks.due("q -100", x.mix(2, 0, 0, 1, -100), 1);
        Checks.isFilled("q -100", x, 2, Checks.row(-1000, -2000, -3000));
        Checks.due("p 101", x.mix(2, 0, 101, 1, 0), -3);
        Checks.due("p -101", x.mix(2, 0, -101, 1, 0), -3);
        Checks.due("q 101", x.mix(2, 0, 0, 1, 101), -3);
        Checks.due("q -101", x.mix(2, 0, 0, 1, -101), -3);
        Checks.isFilled("refused", x, 2, Checks.row(-1000, -2000, -3000));
        Checks.due("p and q 0", x.mix(2, 0, 0, 1, 0), 1);
        Checks.isFilled("p and q 0", x, 2, Checks.row(0, 0, 0));
    }

    /** "of as many PIECES", "NOT: not as many PIECES" */
    private static void mixOfAsManyPieces() {
        SmoothPieces x = new SmoothPieces();
        for (int n = 1; n <= 16; n++) {
            x.pieces(0, n);
            x.pieces(1, n);
            x.piece(1, n - 1, 1, 2, 3);
            Checks.due("as many, " + n, x.mix(2, 0, 1, 1, 1), 1);
            Checks.due("as many, " + n, x.count(2, 0), n);
            Checks.due("as many, " + n, x.of(2, n - 1, 2), 3);
            x.pieces(3, n == 16 ? 15 : n + 1);
            Checks.due("not as many", x.mix(2, 0, 1, 3, 1), -4);
            Checks.due("not as many", x.mix(2, 3, 1, 0, 1), -4);
            Checks.due("not as many, with 0", x.mix(2, 0, 1, 3, 0), -4);
            Checks.due("refused", x.count(2, 0), n);
        }
    }

    /** "they come in place of what is there" */
    private static void mixInPlaceOfWhatIsThere() {
        SmoothPieces x = with(Checks.row(1, 2, 3), Checks.row(4, 5, 6));
        Checks.fill(x, 1, Checks.row(7, 8, 9), Checks.row(-1, -2, -3));
        x.pieces(2, 16);
        Checks.due("in place of 16", x.mix(2, 0, 2, 1, 3), 1);
        Checks.isFilled("in place of 16", x, 2, Checks.row(23, 28, 33), Checks.row(5, 4, 3));
        Checks.due("in place of 1", x.mix(3, 0, 2, 1, 3), 1);
        Checks.isFilled("in place of 1", x, 3, Checks.row(23, 28, 33), Checks.row(5, 4, 3));
        Checks.due("in place of one", x.mix(0, 0, 2, 1, 3), 1);
        Checks.isFilled("in place of one", x, 0, Checks.row(23, 28, 33), Checks.row(5, 4, 3));
        Checks.due("in place of two", x.mix(1, 0, 1, 1, -3), 1);
        Checks.isFilled("in place of two", x, 1, Checks.row(2, 4, 6), Checks.row(8, 10, 12));
        Checks.due("in place of both", x.mix(1, 1, 2, 1, -1), 1);
        Checks.isFilled("in place of both", x, 1, Checks.row(2, 4, 6), Checks.row(8, 10, 12));
    }

    /** "GREAT (a, b, c beyond their bounds)": each of them, in the first, a middle and the last piece. */
    private static void mixGreat() {
        for (int at : new int[] {0, 7, 15}) {
            for (int k = 0; k < 3; k++) {
                for (int sign = -1; sign <= 1; sign += 2) {
                    SmoothPieces x = new SmoothPieces();
                    x.pieces(0, 16);
                    x.pieces(1, 16);
                    int[] most = only(k, sign * 1000);
                    int[] one = only(k, sign);
                    x.piece(0, at, most[0], most[1], most[2]);
                    x.piece(1, at, one[0], one[1], one[2]);
                    Checks.due("to the bound", x.mix(2, 0, 100, 1, 0), 1);
                    Checks.due("to the bound", x.of(2, at, k), sign * 100000);
                    Checks.due("beyond it by 1", x.mix(2, 0, 100, 1, 1), -5);
                    Checks.due("beyond it by 1", x.mix(2, 1, -1, 0, -100), -5);
                    Checks.due("refused", x.of(2, at, k), sign * 100000);
                    Checks.due("beyond it in place of one", x.mix(0, 0, 100, 1, 1), -5);
                    Checks.due("refused", x.of(0, at, k), sign * 1000);
                    Checks.due("back", x.mix(2, 0, 100, 1, -1), 1);
                    Checks.due("back", x.of(2, at, k), sign * 99999);
                }
            }
        }
    }

    private static void mixWithoutWrapAround() {
        SmoothPieces x = with(Checks.row(100000, 100000, 100000));
        Checks.due("20000000", x.mix(1, 0, 100, 0, 100), -5);
        Checks.due("-20000000", x.mix(1, 0, -100, 0, -100), -5);
        Checks.due("great ones that cancel", x.mix(1, 0, 100, 0, -99), 1);
        Checks.isFilled("great ones that cancel", x, 1, Checks.row(100000, 100000, 100000));
        Checks.due("great ones that cancel", x.mix(1, 0, -100, 0, 99), 1);
        Checks.isFilled("great ones that cancel", x, 1, Checks.row(-100000, -100000, -100000));
    }

    /** "of f with n PIECES (8 at most) the one g with 2 n PIECES", "NOT: it has more than 8 PIECES" */
    private static void refineEightAtMost() {
        for (int n = 1; n <= 16; n++) {
            SmoothPieces x = new SmoothPieces();
            x.pieces(0, n);
            x.piece(0, n - 1, 1, 2, 3);
            Checks.due("refine " + n, x.refine(1, 0), n <= 8 ? 1 : -4);
            Checks.due("pieces of " + n, x.count(1, 0), n <= 8 ? 2 * n : 1);
            if (n <= 8) {
                Checks.due("the last but one", x.of(1, 2 * n - 2, 0), 4);
                Checks.due("the last", x.of(1, 2 * n - 1, 0), 11);
            }
            Checks.due("refine in its own place " + n, x.refine(0, 0), n <= 8 ? 1 : -4);
            Checks.due("pieces in its own place " + n, x.count(0, 0), n <= 8 ? 2 * n : n);
        }
    }

    /** "g(x) is four times f(x / 2)": at the knots, between them, and at the right end */
    private static void refineFourTimesAtHalf() {
        SmoothPieces x = with(Checks.row(3, -5, 7), Checks.row(-2, 9, -4), Checks.row(1, 1, 1));
        Checks.due("refine", x.refine(1, 0), 1);
        for (int u = 0; u <= 6 * 8; u++) {
            long over = x.value(0, u, 16, 0) * x.value(1, u, 8, 1) * 4;
            long under = x.value(1, u, 8, 0) * x.value(0, u, 16, 1);
            Checks.due("g(" + u + " / 8)", under, over);
        }
        Checks.due("inside a piece of f it is smooth", x.join(1, 1), 2);
        Checks.due("at a jump of f it jumps", x.join(1, 2), -1);
    }

    private static void refineInPlaceOfWhatIsThere() {
        SmoothPieces x = with(Checks.row(1, 2, 3), Checks.row(-4, 5, -6));
        x.pieces(1, 16);
        Checks.due("in place of 16", x.refine(1, 0), 1);
        Checks.isFilled("in place of 16", x, 1, Checks.row(4, 4, 3), Checks.row(11, 10, 3), Checks.row(-16, 10, -6),
                Checks.row(-12, -2, -6));
        Checks.due("in place of itself", x.refine(0, 0), 1);
        Checks.isFilled("in place of itself", x, 0, Checks.row(4, 4, 3), Checks.row(11, 10, 3),
                Checks.row(-16, 10, -6), Checks.row(-12, -2, -6));
    }

    private static void refineTo(String what, int due, int... row) {
        for (int sign = -1; sign <= 1; sign += 2) {
            for (int at = 0; at < 8; at += 7) {
                SmoothPieces x = new SmoothPieces();
                x.pieces(0, 8);
                x.piece(0, at, sign * row[0], sign * row[1], sign * row[2]);
                Checks.due(what + " in piece " + at, x.refine(1, 0), due);
                Checks.due(what + ": pieces", x.count(1, 0), due == 1 ? 16 : 1);
                Checks.due(what + " in its own place", x.refine(0, 0), due);
                Checks.due(what + ": pieces", x.count(0, 0), due == 1 ? 16 : 8);
            }
        }
    }

    private static void refineGreat() {
        refineTo("4 a at the bound", 1, 25000, 0, 0);
        refineTo("4 a beyond it", -5, 25001, 0, 0);
        refineTo("2 b at the bound", 1, 0, 50000, 0);
        refineTo("2 b beyond it", -5, 0, 50001, 0);
        refineTo("2 b + 2 c at the bound", 1, 0, 1, 49999);
        refineTo("2 b + 2 c beyond it", -5, 0, 1, 50000);
        refineTo("4 a + 2 b + c at the bound", 1, 24999, 1, 2);
        refineTo("4 a + 2 b + c beyond it", -5, 24999, 1, 3);
        refineTo("4 a beyond the bound, back in the right half", -5, 25001, -4, 0);
        refineTo("2 b beyond the bound, back in the right half", -5, 0, -50001, 50000);
        refineTo("c at its bound", 1, 0, -50000, 100000);
        refineTo("4 a + 2 b + c at the bound from above", 1, -25000, 50000, 0);
    }

    /** "SLOPED: PIECES b + 2 c t." */
    private static void slopeOfEachPiece() {
        for (int n = 1; n <= 16; n++) {
            SmoothPieces x = new SmoothPieces();
            x.pieces(0, n);
            for (int i = 0; i < n; i++) {
                x.piece(0, i, 50 + i, 100 + i, -200 - i);
            }
            Checks.due("slope of " + n, x.slope(1, 0), 1);
            Checks.due("pieces", x.count(1, 0), n);
            for (int i = 0; i < n; i++) {
                Checks.due("b", x.of(1, i, 0), 100 + i);
                Checks.due("2 c", x.of(1, i, 1), -400 - 2 * i);
                Checks.due("0", x.of(1, i, 2), 0);
            }
        }
    }

    private static void slopeInPlaceOfWhatIsThere() {
        SmoothPieces x = with(Checks.row(1, 2, 3), Checks.row(-4, 5, -6));
        x.pieces(1, 16);
        Checks.due("in place of 16", x.slope(1, 0), 1);
        Checks.isFilled("in place of 16", x, 1, Checks.row(2, 6, 0), Checks.row(5, -12, 0));
        Checks.due("in place of itself", x.slope(0, 0), 1);
        Checks.isFilled("in place of itself", x, 0, Checks.row(2, 6, 0), Checks.row(5, -12, 0));
        Checks.due("once more", x.slope(0, 0), 1);
        Checks.isFilled("once more", x, 0, Checks.row(6, 0, 0), Checks.row(-12, 0, 0));
        Checks.due("and 0 at last", x.slope(0, 0), 1);
        Checks.isFilled("and 0 at last", x, 0, Checks.row(0, 0, 0), Checks.row(0, 0, 0));
    }

    private static void slopeGreat() {
        for (int at = 0; at < 16; at += 5) {
            for (int sign = -1; sign <= 1; sign += 2) {
                SmoothPieces x = new SmoothPieces();
                x.pieces(0, 16);
                x.piece(0, at, sign * 100000, sign * 100000, sign * 50000);
                Checks.due("2 c at the bound", x.slope(1, 0), 1);
                Checks.due("2 c at the bound", x.of(1, at, 1), sign * 100000);
                Checks.due("b at the bound", x.of(1, at, 0), sign * 100000);
                x.piece(0, at, 7, 8, sign * 50001);
                Checks.due("2 c beyond it", x.slope(1, 0), -5);
                Checks.due("refused", x.of(1, at, 1), sign * 100000);
                Checks.due("2 c beyond it in its own place", x.slope(0, 0), -5);
                Checks.due("refused", x.of(0, at, 0), 7);
                Checks.due("refused", x.of(0, at, 2), sign * 50001);
                x.piece(0, at, 7, 8, sign * 100000);
                Checks.due("the greatest c", x.slope(1, 0), -5);
            }
        }
    }

    /** "PUSHED by v: with v (-100000 .. 100000) more everywhere." */
    private static void pushToItsBounds() {
        SmoothPieces x = new SmoothPieces();
        Checks.due("v 100000", x.push(0, 100000), 1);
        Checks.isFilled("v 100000", x, 0, Checks.row(100000, 0, 0));
        Checks.due("v -100000", x.push(0, -100000), 1);
        Checks.due("v -100000", x.push(0, -100000), 1);
        Checks.isFilled("v -100000", x, 0, Checks.row(-100000, 0, 0));
        Checks.due("v 100001", x.push(0, 100001), -3);
        Checks.due("v -100001, OUTSIDE ahead of GREAT", x.push(0, -100001), -3);
        Checks.due("v 0", x.push(0, 0), 1);
        Checks.isFilled("v 0", x, 0, Checks.row(-100000, 0, 0));
    }

    private static void pushEverywhere() {
        SmoothPieces x = new SmoothPieces();
        x.pieces(0, 16);
        for (int i = 0; i < 16; i++) {
            x.piece(0, i, i, 2 * i, 3 * i);
        }
        Checks.due("push", x.push(0, -77), 1);
        Checks.due("pieces", x.count(0, 0), 16);
        for (int i = 0; i < 16; i++) {
            Checks.due("a", x.of(0, i, 0), i - 77);
            Checks.due("b stays", x.of(0, i, 1), 2 * i);
            Checks.due("c stays", x.of(0, i, 2), 3 * i);
        }
    }

    private static void pushGreat() {
        for (int at = 0; at < 16; at += 5) {
            for (int sign = -1; sign <= 1; sign += 2) {
                SmoothPieces x = new SmoothPieces();
                x.pieces(0, 16);
                x.piece(0, at, sign * 99990, sign * 100000, sign * 100000);
                Checks.due("beyond the bound by 1", x.push(0, sign * 11), -5);
                Checks.due("far beyond", x.push(0, sign * 100000), -5);
                Checks.due("refused", x.of(0, at, 0), sign * 99990);
                Checks.due("refused in other pieces", x.of(0, 15 - at, 0), 0);
                Checks.due("to the bound", x.push(0, sign * 10), 1);
                Checks.due("to the bound", x.of(0, at, 0), sign * 100000);
                Checks.due("in other pieces", x.of(0, 15 - at, 0), sign * 10);
                Checks.due("back from it", x.push(0, sign * -100000), 1);
                Checks.due("back from it", x.of(0, at, 0), 0);
            }
        }
    }
}
