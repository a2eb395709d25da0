/** Promises 14 to 17: functions made of others. */
public final class MadeOfOthersTest {
    private static final int MIN = Integer.MIN_VALUE, MAX = Integer.MAX_VALUE;

    private MadeOfOthersTest() {
    }

    public static void main(String[] args) {
        promise14Mix();
        promise14Wrong();
        promise14Great();
        promise15Refine();
        promise15Wrong();
        promise16Slope();
        promise17Push();
        Checks.finish("MadeOfOthersTest");
    }

    private static void promise14Mix() {
        SmoothPieces x = new SmoothPieces();
        Checks.fill(x, 0, Checks.row(1, 2, 3), Checks.row(4, 5, 6));
        Checks.fill(x, 1, Checks.row(-1, 0, 1), Checks.row(10, 20, -30));
        Checks.due("14 mix", x.mix(2, 0, 3, 1, -2), 1);
        Checks.isFilled("14 mixed", x, 2, Checks.row(5, 6, 7), Checks.row(-8, -25, 78));
        Checks.isFilled("14 one stays", x, 0, Checks.row(1, 2, 3), Checks.row(4, 5, 6));
        Checks.isFilled("14 two stays", x, 1, Checks.row(-1, 0, 1), Checks.row(10, 20, -30));
        Checks.due("14 in place of one", x.mix(0, 0, 1, 1, 1), 1);
        Checks.isFilled("14 in place of one", x, 0, Checks.row(0, 2, 4), Checks.row(14, 25, -24));
        Checks.due("14 in place of two", x.mix(1, 0, 1, 1, -1), 1);
        Checks.isFilled("14 in place of two", x, 1, Checks.row(1, 2, 3), Checks.row(4, 5, 6));
        Checks.due("14 of itself alone", x.mix(1, 1, 2, 1, -100), 1);
        Checks.isFilled("14 of itself alone", x, 1, Checks.row(-98, -196, -294), Checks.row(-392, -490, -588));
        Checks.due("14 in place of more pieces", x.pieces(3, 9), 1);
        Checks.due("14 in place of more pieces", x.mix(3, 0, 100, 0, -100), 1);
        Checks.isFilled("14 nothing of both", x, 3, Checks.row(0, 0, 0), Checks.row(0, 0, 0));
        Checks.due("14 pieces behind come as 0", x.pieces(3, 3), 1);
        Checks.isFilled("14 pieces behind come as 0", x, 3, Checks.row(0, 0, 0), Checks.row(0, 0, 0),
                Checks.row(0, 0, 0));
    }

    private static void promise14Wrong() {
        SmoothPieces x = new SmoothPieces();
        Checks.fill(x, 0, Checks.row(1, 2, 3), Checks.row(4, 5, 6));
        for (int place : Checks.NO_PLACES) {
            Checks.due("14 no such place", x.mix(place, 0, 1, 0, 1), -2);
            Checks.due("14 no such one", x.mix(0, place, 1, 0, 1), -2);
            Checks.due("14 no such two", x.mix(0, 0, 1, place, 1), -2);
            Checks.due("14 unknown ahead of outside", x.mix(0, 0, 101, place, 1), -2);
        }
        for (int beyond : new int[] {101, -101, MIN, MAX}) {
            Checks.due("14 p outside", x.mix(0, 0, beyond, 0, 0), -3);
            Checks.due("14 q outside", x.mix(0, 0, 0, 0, beyond), -3);
            Checks.due("14 outside ahead of not", x.mix(0, 0, 0, 1, beyond), -3);
        }
        Checks.due("14 not as many", x.mix(0, 0, 1, 1, 0), -4);
        Checks.due("14 not as many", x.mix(0, 1, 0, 0, 1), -4);
        Checks.isFilled("14 nothing changes", x, 0, Checks.row(1, 2, 3), Checks.row(4, 5, 6));
    }

    private static void promise14Great() {
        SmoothPieces x = new SmoothPieces();
        Checks.fill(x, 1, Checks.row(7, 7, 7));
        for (int k = 0; k < 3; k++) {
            Checks.fill(x, 0, Checks.row(1, 1, 1), Checks.row(k == 0 ? 1001 : 1, k == 1 ? 1001 : 1, k == 2 ? 1001 : 1));
            Checks.due("14 great", x.mix(1, 0, 100, 0, 0), -5);
            Checks.due("14 great below", x.mix(1, 0, 0, 0, -100), -5);
            Checks.isFilled("14 great changes nothing", x, 1, Checks.row(7, 7, 7));
            Checks.due("14 great in its own place", x.mix(0, 0, 99, 0, 1), -5);
            Checks.isFilled("14 great changes nothing", x, 0, Checks.row(1, 1, 1),
                    Checks.row(k == 0 ? 1001 : 1, k == 1 ? 1001 : 1, k == 2 ? 1001 : 1));
        }
        Checks.fill(x, 0, Checks.row(1000, -1000, 100000));
        Checks.due("14 at the bound", x.mix(1, 0, 100, 0, -99), 1);
        Checks.isFilled("14 at the bound", x, 1, Checks.row(1000, -1000, 100000));
        Checks.due("14 at the bound below", x.mix(1, 0, -1, 0, 0), 1);
        Checks.isFilled("14 at the bound below", x, 1, Checks.row(-1000, 1000, -100000));
        Checks.fill(x, 2, Checks.row(1, 1, 1), Checks.row(1, 1, 1));
        Checks.due("14 not ahead of great", x.mix(1, 0, 100, 2, 100), -4);
        x.pieces(3, 16);
        x.piece(3, 15, 100, -100, 7);
        Checks.due("14 16 pieces", x.mix(4, 3, 3, 3, 4), 1);
        Checks.due("14 16 pieces", x.count(4, 0), 16);
        Checks.due("14 16 pieces: the last", x.of(4, 15, 2), 49);
        x.piece(3, 15, 0, 0, 1001);
        Checks.due("14 great in the last of 16", x.mix(4, 3, 100, 3, 0), -5);
        Checks.due("14 great changes nothing", x.of(4, 15, 2), 49);
    }

    private static void promise15Refine() {
        SmoothPieces x = new SmoothPieces();
        Checks.fill(x, 0, Checks.row(1, 2, 3), Checks.row(-4, 5, -6));
        Checks.due("15 refine", x.refine(1, 0), 1);
        Checks.isFilled("15 refined", x, 1, Checks.row(4, 4, 3), Checks.row(11, 10, 3), Checks.row(-16, 10, -6),
                Checks.row(-12, -2, -6));
        Checks.isFilled("15 the other stays", x, 0, Checks.row(1, 2, 3), Checks.row(-4, 5, -6));
        for (int u = 0; u <= 16; u++) {
            // g(u / 4) = 4 f(u / 8)
            Checks.due("15 four times f at x / 2", x.value(1, u, 4, 0) * x.value(0, u, 8, 1),
                    4 * x.value(0, u, 8, 0) * x.value(1, u, 4, 1));
        }
        Checks.due("15 of itself", x.refine(1, 1), 1);
        Checks.due("15 of itself", x.count(1, 0), 8);
        Checks.due("15 of itself: the last a", x.of(1, 7, 0), -58);
        Checks.due("15 8 pieces are few enough", x.refine(2, 1), 1);
        Checks.due("15 8 pieces are few enough", x.count(2, 0), 16);
        Checks.due("15 knots inside are joined", x.count(2, 2), 14);
        Checks.due("15 the other knot is not", x.count(2, 1), 1);
    }

    private static void promise15Wrong() {
        SmoothPieces x = new SmoothPieces();
        Checks.fill(x, 0, Checks.row(1, 2, 3));
        x.pieces(1, 9);
        x.piece(1, 0, 100000, 0, 0);
        Checks.due("15 9 pieces, ahead of great", x.refine(0, 1), -4);
        x.pieces(1, 16);
        Checks.due("15 16 pieces", x.refine(0, 1), -4);
        for (int place : Checks.NO_PLACES) {
            Checks.due("15 no such place", x.refine(place, 0), -2);
            Checks.due("15 no such other", x.refine(0, place), -2);
            Checks.due("15 unknown ahead of not", x.refine(place, 1), -2);
        }
        Checks.fill(x, 1, Checks.row(25001, 0, 0));
        Checks.due("15 a great", x.refine(0, 1), -5);
        Checks.fill(x, 1, Checks.row(0, 50001, 0));
        Checks.due("15 b great", x.refine(0, 1), -5);
        Checks.fill(x, 1, Checks.row(24999, 2, 1));
        Checks.due("15 a great in the right half", x.refine(0, 1), -5);
        Checks.fill(x, 1, Checks.row(-50000, 25000, 50000), Checks.row(0, 0, 0));
        Checks.due("15 a great in the left half", x.refine(1, 1), -5);
        Checks.isFilled("15 great changes nothing", x, 1, Checks.row(-50000, 25000, 50000), Checks.row(0, 0, 0));
        Checks.fill(x, 1, Checks.row(0, 1, 50000));
        Checks.due("15 b great in the right half", x.refine(0, 1), -5);
        Checks.isFilled("15 great changes nothing", x, 0, Checks.row(1, 2, 3));
        Checks.fill(x, 1, Checks.row(-25000, 50000, 0), Checks.row(25000, 0, 0), Checks.row(0, 0, 50000));
        Checks.due("15 at the bounds", x.refine(0, 1), 1);
        Checks.isFilled("15 at the bounds", x, 0, Checks.row(-100000, 100000, 0), Checks.row(0, 100000, 0),
                Checks.row(100000, 0, 0), Checks.row(100000, 0, 0), Checks.row(0, 0, 50000),
                Checks.row(50000, 100000, 50000));
    }

    private static void promise16Slope() {
        SmoothPieces x = new SmoothPieces();
        Checks.fill(x, 0, Checks.row(1, 2, 3), Checks.row(-4, 5, -6));
        x.pieces(3, 7);
        Checks.due("16 slope", x.slope(3, 0), 1);
        Checks.isFilled("16 sloped", x, 3, Checks.row(2, 6, 0), Checks.row(5, -12, 0));
        Checks.isFilled("16 the other stays", x, 0, Checks.row(1, 2, 3), Checks.row(-4, 5, -6));
        Checks.due("16 of itself", x.slope(3, 3), 1);
        Checks.isFilled("16 of itself", x, 3, Checks.row(6, 0, 0), Checks.row(-12, 0, 0));
        Checks.fill(x, 1, Checks.row(100000, -100000, 50000), Checks.row(0, 0, -50000));
        Checks.due("16 at the bounds", x.slope(2, 1), 1);
        Checks.isFilled("16 at the bounds", x, 2, Checks.row(-100000, 100000, 0), Checks.row(0, -100000, 0));
        Checks.fill(x, 1, Checks.row(1, 1, 1), Checks.row(1, 1, 50001));
        Checks.due("16 great", x.slope(2, 1), -5);
        Checks.isFilled("16 great changes nothing", x, 2, Checks.row(-100000, 100000, 0), Checks.row(0, -100000, 0));
        Checks.due("16 great of itself", x.slope(1, 1), -5);
        Checks.isFilled("16 great changes nothing", x, 1, Checks.row(1, 1, 1), Checks.row(1, 1, 50001));
        Checks.fill(x, 1, Checks.row(0, 0, -50001));
        Checks.due("16 great below", x.slope(2, 1), -5);
        for (int place : Checks.NO_PLACES) {
            Checks.due("16 no such place", x.slope(place, 0), -2);
            Checks.due("16 no such other", x.slope(0, place), -2);
            Checks.due("16 unknown ahead of great", x.slope(place, 1), -2);
        }
        x.pieces(4, 16);
        Checks.due("16 16 pieces", x.slope(5, 4), 1);
        Checks.due("16 16 pieces", x.count(5, 0), 16);
    }

    private static void promise17Push() {
        SmoothPieces x = new SmoothPieces();
        Checks.fill(x, 5, Checks.row(1, 2, 3), Checks.row(-4, 5, -6));
        Checks.due("17 push", x.push(5, 10), 1);
        Checks.isFilled("17 pushed", x, 5, Checks.row(11, 2, 3), Checks.row(6, 5, -6));
        Checks.due("17 push down", x.push(5, -20), 1);
        Checks.isFilled("17 pushed down", x, 5, Checks.row(-9, 2, 3), Checks.row(-14, 5, -6));
        Checks.due("17 by nothing", x.push(5, 0), 1);
        Checks.due("17 great at the first", x.push(5, -99992), -5);
        Checks.due("17 great at the last alone", x.push(5, -99987), -5);
        Checks.isFilled("17 great changes nothing", x, 5, Checks.row(-9, 2, 3), Checks.row(-14, 5, -6));
        Checks.due("17 to the bound", x.push(5, -99986), 1);
        Checks.isFilled("17 to the bound", x, 5, Checks.row(-99995, 2, 3), Checks.row(-100000, 5, -6));
        Checks.due("17 by the most", x.push(5, 100000), 1);
        Checks.due("17 above the bound", x.push(5, 99996), -5);
        Checks.due("17 to the upper bound", x.push(5, 99995), 1);
        Checks.due("17 by the least", x.push(5, -100000), 1);
        Checks.isFilled("17 at last", x, 5, Checks.row(0, 2, 3), Checks.row(-5, 5, -6));
        for (int v : new int[] {100001, -100001, MIN, MAX}) {
            Checks.due("17 outside", x.push(5, v), -3);
        }
        for (int place : Checks.NO_PLACES) {
            Checks.due("17 no such place", x.push(place, 1), -2);
            Checks.due("17 unknown ahead of outside", x.push(place, 100001), -2);
        }
        x.pieces(3, 16);
        x.piece(3, 15, 100000, 0, 0);
        Checks.due("17 great in the last of 16", x.push(3, 1), -5);
        Checks.due("17 16 pieces", x.push(3, -1), 1);
        Checks.due("17 16 pieces: the first", x.of(3, 0, 0), -1);
        Checks.due("17 16 pieces: the last", x.of(3, 15, 0), 99999);
        Checks.isFilled("17 other places stay", x, 4, Checks.row(0, 0, 0));
    }
}
