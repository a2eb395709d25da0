/** Promises 1 to 13: a new object, and the calls about functions. */
public final class FunctionsTest {
    private static final int MIN = Integer.MIN_VALUE, MAX = Integer.MAX_VALUE;

    private FunctionsTest() {
    }

    public static void main(String[] args) {
        promise1NewObject();
        promise2Pieces();
        promise3Piece();
        promise4Of();
        promise5Value();
        promise5Wrong();
        promise6Join();
        promise7Rising();
        promise7Bent();
        promise8End();
        promise9And10Inside();
        promise9And10AtKnots();
        promise9And10Refused();
        promise11Area();
        promise12Same();
        promise13Meets();
        Checks.finish("FunctionsTest");
    }

    private static void promise1NewObject() {
        SmoothPieces x = new SmoothPieces();
        for (int place = 0; place < 6; place++) {
            Checks.isFilled("1 new", x, place, Checks.row(0, 0, 0));
        }
        Checks.due("1 no points", x.clear(), 0);
        Checks.due("1 first point", x.point(7), 1);
        SmoothPieces other = new SmoothPieces();
        x.piece(0, 0, 1, 2, 3);
        Checks.isFilled("1 objects are apart", other, 0, Checks.row(0, 0, 0));
        Checks.due("1 points are apart", other.clear(), 0);
    }

    private static void promise2Pieces() {
        SmoothPieces x = new SmoothPieces();
        for (int n = 1; n <= 16; n++) {
            Checks.due("2 pieces", x.pieces(n % 6, n), 1);
            Checks.due("2 how many", x.count(n % 6, 0), n);
        }
        Checks.due("2 all", x.pieces(5, 16), 1);
        for (int i = 0; i < 16; i++) {
            x.piece(5, i, i + 1, i + 2, i + 3);
        }
        for (int n : new int[] {0, -1, 17, MIN, MAX}) {
            Checks.due("2 outside", x.pieces(5, n), -3);
        }
        for (int place : Checks.NO_PLACES) {
            Checks.due("2 unknown", x.pieces(place, 3), -2);
            Checks.due("2 unknown ahead of outside", x.pieces(place, 17), -2);
        }
        Checks.due("2 refused changes nothing", x.of(5, 15, 2), 18);
        Checks.due("2 fewer", x.pieces(5, 2), 1);
        Checks.isFilled("2 all become 0", x, 5, Checks.row(0, 0, 0), Checks.row(0, 0, 0));
        Checks.due("2 more again", x.pieces(5, 16), 1);
        for (int i = 0; i < 16; i++) {
            Checks.due("2 no old a", x.of(5, i, 0), 0);
            Checks.due("2 no old b", x.of(5, i, 1), 0);
            Checks.due("2 no old c", x.of(5, i, 2), 0);
        }
    }

    private static void promise3Piece() {
        SmoothPieces x = new SmoothPieces();
        x.pieces(2, 3);
        Checks.due("3 piece", x.piece(2, 1, 100000, -100000, 99999), 1);
        Checks.due("3 piece", x.piece(2, 2, -100000, 100000, -100000), 1);
        Checks.due("3 piece", x.piece(2, 0, -7, 0, 100000), 1);
        for (int beyond : new int[] {100001, -100001, MAX, MIN}) {
            Checks.due("3 a", x.piece(2, 1, beyond, 0, 0), -5);
            Checks.due("3 b", x.piece(2, 1, 0, beyond, 0), -5);
            Checks.due("3 c", x.piece(2, 1, 0, 0, beyond), -5);
            Checks.due("3 unknown ahead of great", x.piece(2, 3, beyond, 0, 0), -2);
        }
        for (int i : new int[] {-1, 3, 15, 16, MIN, MAX}) {
            Checks.due("3 no such piece", x.piece(2, i, 1, 1, 1), -2);
        }
        for (int place : Checks.NO_PLACES) {
            Checks.due("3 no such place", x.piece(place, 0, 1, 1, 1), -2);
        }
        Checks.isFilled("3 kept", x, 2, Checks.row(-7, 0, 100000), Checks.row(100000, -100000, 99999),
                Checks.row(-100000, 100000, -100000));
        Checks.isFilled("3 other places", x, 3, Checks.row(0, 0, 0));
    }

    private static void promise4Of() {
        SmoothPieces x = new SmoothPieces();
        Checks.fill(x, 4, Checks.row(1, 2, 3), Checks.row(-4, -5, -6));
        Checks.due("4 a", x.of(4, 0, 0), 1);
        Checks.due("4 b", x.of(4, 0, 1), 2);
        Checks.due("4 c", x.of(4, 1, 2), -6);
        for (int what : new int[] {-1, 3, MIN, MAX}) {
            Checks.due("4 outside", x.of(4, 0, what), Checks.LEAST_INT);
        }
        for (int i : new int[] {-1, 2, 16, MIN, MAX}) {
            Checks.due("4 no such piece", x.of(4, i, 0), Checks.LEAST_INT);
        }
        for (int place : Checks.NO_PLACES) {
            Checks.due("4 no such place", x.of(place, 0, 0), Checks.LEAST_INT);
        }
    }

    private static void promise5Value() {
        SmoothPieces x = new SmoothPieces();
        Checks.fill(x, 1, Checks.row(1, 2, 3), Checks.row(-10, 0, 4));
        Checks.fraction("5 at 0", x, 1, 0, 9, 1, 1);
        Checks.fraction("5 at 1/3", x, 1, 1, 3, 2, 1);
        Checks.fraction("5 at 1/2", x, 1, 2, 4, 11, 4);
        Checks.fraction("5 at 1/64", x, 1, 1, 64, 4096 + 128 + 3, 4096);
        Checks.fraction("5 at a knot by the piece that begins", x, 1, 5, 5, -10, 1);
        Checks.fraction("5 just before it", x, 1, 63, 64, 4096 + 2 * 63 * 64 + 3 * 63 * 63, 4096);
        Checks.fraction("5 at 3/2", x, 1, 3, 2, -9, 1);
        Checks.fraction("5 at 7/4", x, 1, 7, 4, -31, 4);
        Checks.fraction("5 at n by the last piece", x, 1, 128, 64, -6, 1);
        Checks.fill(x, 0, Checks.row(-1, 0, 4));
        Checks.fraction("5 value 0 is 0/1", x, 0, 8, 16, 0, 1);
        Checks.fill(x, 0, Checks.row(100000, 100000, 100000));
        Checks.fraction("5 great values", x, 0, 63, 64, 37803125L, 128);
        Checks.fill(x, 0, Checks.row(-100000, -100000, -99999));
        long great = 4096L * 100000 + 4032L * 100000 + 3969L * 99999;
        Checks.fraction("5 great values below 0", x, 0, 63, 64, -great, 4096);
        x.pieces(3, 16);
        x.piece(3, 15, 5, 0, 1);
        Checks.fraction("5 the last of 16", x, 3, 16, 1, 6, 1);
        Checks.fraction("5 the last of 16", x, 3, 1023, 64, 5 * 4096 + 3969, 4096);
    }

    private static void promise5Wrong() {
        SmoothPieces x = new SmoothPieces();
        Checks.fill(x, 1, Checks.row(1, 2, 3), Checks.row(-10, 0, 4));
        for (int v : new int[] {0, -1, 65, MIN, MAX}) {
            Checks.due("5 v outside", x.value(1, 0, v, 0), Checks.LEAST_LONG);
            Checks.due("5 v outside", x.value(1, 1, v, 1), Checks.LEAST_LONG);
        }
        for (int u : new int[] {-1, 129, MIN, MAX}) {
            Checks.due("5 x outside", x.value(1, u, 64, 0), Checks.LEAST_LONG);
        }
        Checks.due("5 x a little outside", x.value(1, 5, 2, 0), Checks.LEAST_LONG);
        for (int part : new int[] {-1, 2, MIN, MAX}) {
            Checks.due("5 part outside", x.value(1, 0, 1, part), Checks.LEAST_LONG);
        }
        for (int place : Checks.NO_PLACES) {
            Checks.due("5 no such place", x.value(place, 0, 1, 0), Checks.LEAST_LONG);
        }
    }

    private static void promise6Join() {
        SmoothPieces x = new SmoothPieces();
        Checks.fill(x, 0, Checks.row(1, 2, 3), Checks.row(6, 8, 3), Checks.row(17, 14, 2), Checks.row(33, 17, 2),
                Checks.row(53, 21, 2), Checks.row(76, 25, 3));
        Checks.due("6 all three", x.join(0, 1), 2);
        Checks.due("6 value and slope", x.join(0, 2), 1);
        Checks.due("6 value alone", x.join(0, 3), 0);
        Checks.due("6 another value, same slope and bend", x.join(0, 4), -1);
        Checks.due("6 value and slope again", x.join(0, 5), 1);
        Checks.fill(x, 1, Checks.row(0, 1, 0), Checks.row(1, 2, 0), Checks.row(-3, 2, 0));
        Checks.due("6 same bend, another slope", x.join(1, 1), 0);
        Checks.due("6 nothing but bends", x.join(1, 2), -1);
        for (int knot : new int[] {0, -1, 3, 16, MIN, MAX}) {
            Checks.due("6 no such knot", x.join(1, knot), -2);
        }
        for (int place : Checks.NO_PLACES) {
            Checks.due("6 no such place", x.join(place, 1), -2);
        }
        Checks.due("6 one piece has no knot to join", x.join(2, 1), -2);
    }

    private static void shapes(String what, SmoothPieces x, int place, int... due) {
        for (int shape = 1; shape <= 4; shape++) {
            Checks.due("7 " + what + ", shape " + shape, x.has(place, shape), due[shape - 1]);
        }
    }

    private static void promise7Rising() {
        SmoothPieces x = new SmoothPieces();
        shapes("all 0", x, 0, 1, 1, 1, 1);
        Checks.fill(x, 0, Checks.row(0, 0, 1), Checks.row(5, 2, -1));
        shapes("a jump up", x, 0, 1, 0, 0, 0);
        Checks.fill(x, 0, Checks.row(0, 0, 1), Checks.row(0, 2, -1));
        shapes("a jump down", x, 0, 0, 0, 0, 0);
        Checks.fill(x, 0, Checks.row(0, 0, -1), Checks.row(-5, -2, 1));
        shapes("a jump down, falling", x, 0, 0, 1, 0, 0);
        Checks.fill(x, 0, Checks.row(0, 0, -1), Checks.row(0, -2, 1));
        shapes("a jump up, falling pieces", x, 0, 0, 0, 0, 0);
        Checks.fill(x, 0, Checks.row(0, -1, 100));
        shapes("falls a little first", x, 0, 0, 0, 1, 0);
        Checks.fill(x, 0, Checks.row(0, 199, -100));
        shapes("falls a little at last", x, 0, 0, 0, 0, 1);
        Checks.fill(x, 0, Checks.row(0, 200, -100));
        shapes("slope 0 at last", x, 0, 1, 0, 0, 1);
        Checks.fill(x, 0, Checks.row(0, -200, 100));
        shapes("falling, slope 0 at last", x, 0, 0, 1, 1, 0);
        Checks.fill(x, 0, Checks.row(3, 0, 0), Checks.row(3, 0, 0), Checks.row(4, 0, 0));
        shapes("a step", x, 0, 1, 0, 0, 0);
        Checks.fill(x, 0, Checks.row(3, 0, 0), Checks.row(3, 0, 0), Checks.row(2, 0, 0));
        shapes("a step down", x, 0, 0, 1, 0, 0);
    }

    private static void promise7Bent() {
        SmoothPieces x = new SmoothPieces();
        Checks.fill(x, 0, Checks.row(5, -3, 0), Checks.row(2, -1, 0), Checks.row(1, 2, 1));
        shapes("bent up by corners", x, 0, 0, 0, 1, 0);
        Checks.fill(x, 0, Checks.row(5, 3, 0), Checks.row(8, 1, 0), Checks.row(9, -2, -1));
        shapes("bent down by corners", x, 0, 0, 0, 0, 1);
        Checks.fill(x, 0, Checks.row(0, 1, 1), Checks.row(2, 2, 1));
        shapes("slope falls at a knot", x, 0, 1, 0, 0, 0);
        Checks.fill(x, 0, Checks.row(0, 4, -1), Checks.row(3, 3, -1));
        shapes("slope rises at a knot", x, 0, 1, 0, 0, 0);
        Checks.fill(x, 0, Checks.row(0, 1, 1), Checks.row(3, 3, 1));
        shapes("bent up but for a jump", x, 0, 1, 0, 0, 0);
        Checks.fill(x, 0, Checks.row(0, 5, 0), Checks.row(5, 5, 0));
        shapes("straight", x, 0, 1, 0, 1, 1);
        Checks.fill(x, 0, Checks.row(0, 1, 1), Checks.row(2, 3, -1));
        shapes("bent up, then down", x, 0, 1, 0, 0, 0);
        for (int shape : new int[] {0, 5, -1, MIN, MAX}) {
            Checks.due("7 outside", x.has(0, shape), -3);
        }
        for (int place : Checks.NO_PLACES) {
            Checks.due("7 no such place", x.has(place, 1), -2);
            Checks.due("7 unknown ahead of outside", x.has(place, 5), -2);
        }
    }

    private static void ends(String what, SmoothPieces x, int place, int top, int bottom) {
        Checks.due("8 " + what + ": top", x.end(place, 0), top);
        Checks.due("8 " + what + ": bottom", x.end(place, 1), bottom);
    }

    private static void promise8End() {
        SmoothPieces x = new SmoothPieces();
        ends("all 0", x, 0, 0, 0);
        Checks.fill(x, 0, Checks.row(0, 2, -2));
        ends("a peak of 1/2", x, 0, 1, 0);
        Checks.fill(x, 0, Checks.row(0, 1, -1));
        ends("a peak of 1/4", x, 0, 1, 0);
        Checks.fill(x, 0, Checks.row(0, 1, -100000));
        ends("hardly a peak", x, 0, 1, -99999);
        Checks.fill(x, 0, Checks.row(0, -2, 2));
        ends("a valley of -1/2", x, 0, 0, -1);
        Checks.fill(x, 0, Checks.row(-5, 4, -4));
        ends("a whole peak below 0", x, 0, -4, -5);
        Checks.fill(x, 0, Checks.row(-5, 2, -2));
        ends("a peak of -9/2", x, 0, -4, -5);
        Checks.fill(x, 0, Checks.row(5, -2, 2));
        ends("a valley of 9/2", x, 0, 5, 4);
        Checks.fill(x, 0, Checks.row(0, 0, 9), Checks.row(1, 0, 0));
        ends("a top from the left alone", x, 0, 9, 0);
        Checks.fill(x, 0, Checks.row(0, 0, -9), Checks.row(-1, 0, 0));
        ends("a bottom from the left alone", x, 0, 0, -9);
        Checks.fill(x, 0, Checks.row(0, 20, -10), Checks.row(3, 0, 0));
        ends("the vertex at t = 1", x, 0, 10, 0);
        Checks.fill(x, 0, Checks.row(0, 22, -10));
        ends("the vertex behind the piece", x, 0, 12, 0);
        Checks.fill(x, 0, Checks.row(0, -1, -10));
        ends("the vertex before the piece", x, 0, 0, -11);
        Checks.fill(x, 0, Checks.row(100000, 100000, -100000), Checks.row(-100000, -100000, 100000));
        ends("great ones", x, 0, 125000, -125000);
        Checks.fill(x, 0, Checks.row(100000, 100000, 100000));
        ends("the greatest", x, 0, 300000, 100000);
        Checks.fill(x, 0, Checks.row(-100000, -100000, -100000), Checks.row(0, 99999, -100000));
        ends("a great peak", x, 0, 25000, -300000);
        for (int way : new int[] {-1, 2, MIN, MAX}) {
            Checks.due("8 outside", x.end(0, way), Checks.LEAST_INT);
        }
        for (int place : Checks.NO_PLACES) {
            Checks.due("8 no such place", x.end(place, 0), Checks.LEAST_INT);
        }
    }

    private static void promise9And10Inside() {
        SmoothPieces x = new SmoothPieces();
        Checks.fill(x, 0, Checks.row(-1, 3, 0));
        Checks.boxes("straight", x, 0, 21);
        Checks.fill(x, 0, Checks.row(1, -3, 0));
        Checks.boxes("straight, falling", x, 0, 21);
        Checks.fill(x, 0, Checks.row(-1, 64, 0));
        Checks.boxes("at a box's edge", x, 0, 1);
        Checks.fill(x, 0, Checks.row(-999, 64000, 0));
        Checks.boxes("just before a box's edge", x, 0, 0);
        Checks.fill(x, 0, Checks.row(1, -6, 9));
        Checks.boxes("touches 0", x, 0, 21);
        Checks.fill(x, 0, Checks.row(-1, 4, -4));
        Checks.boxes("touches 0 from below", x, 0, 32);
        Checks.fill(x, 0, Checks.row(1, -5, 6));
        Checks.boxes("1/3 and 1/2", x, 0, 21, 32);
        Checks.fill(x, 0, Checks.row(-1, 5, -6));
        Checks.boxes("1/3 and 1/2 turned", x, 0, 21, 32);
        Checks.fill(x, 0, Checks.row(-1, 0, 2));
        Checks.boxes("root of 1/2", x, 0, 45);
        Checks.fill(x, 0, Checks.row(8190, -16381, 8191));
        Checks.boxes("8190/8191 and 1", x, 0, 63, 64);
        Checks.fill(x, 0, Checks.row(24999, -100000, 100000));
        Checks.boxes("two near 1/2", x, 0, 31, 32);
        Checks.fill(x, 0, Checks.row(25000, -100000, 100000));
        Checks.boxes("one at 1/2", x, 0, 32);
        Checks.fill(x, 0, Checks.row(25001, -100000, 100000));
        Checks.boxes("a little above 0", x, 0);
        Checks.fill(x, 0, Checks.row(20, -9, 1));
        Checks.boxes("roots at 4 and 5", x, 0);
        Checks.fill(x, 0, Checks.row(20, 9, 1));
        Checks.boxes("roots at -4 and -5", x, 0);
        Checks.fill(x, 0, Checks.row(7, 0, 0));
        Checks.boxes("never 0", x, 0);
        Checks.fill(x, 0, Checks.row(1, 0, 1));
        Checks.boxes("no root at all", x, 0);
    }

    private static void promise9And10AtKnots() {
        SmoothPieces x = new SmoothPieces();
        Checks.fill(x, 0, Checks.row(0, 1, 0));
        Checks.boxes("at 0", x, 0, 0);
        Checks.fill(x, 0, Checks.row(0, -1, 1));
        Checks.boxes("at 0 and n", x, 0, 0, 64);
        Checks.fill(x, 0, Checks.row(2, -3, 1));
        Checks.boxes("1 and 2, of one piece", x, 0, 64);
        Checks.fill(x, 0, Checks.row(1, -2, 1));
        Checks.boxes("touches 0 at n", x, 0, 64);
        Checks.fill(x, 0, Checks.row(0, 0, 1));
        Checks.boxes("touches 0 at 0", x, 0, 0);
        Checks.fill(x, 0, Checks.row(1, -1, 0), Checks.row(3, 0, 0));
        Checks.boxes("from the left alone", x, 0);
        Checks.fill(x, 0, Checks.row(1, -1, 0), Checks.row(0, 3, 0));
        Checks.boxes("from both sides once", x, 0, 64);
        Checks.fill(x, 0, Checks.row(1, 1, 0), Checks.row(0, 3, -3), Checks.row(0, 0, 5));
        Checks.boxes("a knot, the next from its right", x, 0, 64, 128);
        Checks.fill(x, 0, Checks.row(1, 0, 0), Checks.row(-2, 3, 0), Checks.row(1, -4, 3));
        Checks.boxes("several pieces", x, 0, 106, 149, 192);
        x.pieces(1, 16);
        int[] due = new int[32];
        for (int i = 0; i < 16; i++) {
            x.piece(1, i, 1, -6, 8);
            due[2 * i] = 64 * i + 16;
            due[2 * i + 1] = 64 * i + 32;
        }
        Checks.boxes("as many as there can be", x, 1, due);
    }

    private static void promise9And10Refused() {
        SmoothPieces x = new SmoothPieces();
        Checks.due("9 all 0", x.zeros(3), -4);
        Checks.due("10 all 0", x.zero(3, 0), -4);
        Checks.due("10 not ahead of no such zero", x.zero(3, -1), -4);
        Checks.due("10 not ahead of no such zero", x.zero(3, MAX), -4);
        Checks.fill(x, 3, Checks.row(-1, 2, 0), Checks.row(0, 0, 0), Checks.row(-1, 2, 0));
        Checks.due("9 one piece 0", x.zeros(3), -4);
        Checks.due("10 one piece 0", x.zero(3, 0), -4);
        for (int place : Checks.NO_PLACES) {
            Checks.due("9 no such place", x.zeros(place), -2);
            Checks.due("10 no such place", x.zero(place, 0), -2);
        }
        x.piece(3, 1, 0, 0, 1);
        Checks.boxes("no longer 0 throughout", x, 3, 32, 64, 160);
    }

    private static void areas(String what, SmoothPieces x, int i, int j, long numerator, long denominator) {
        Checks.due("11 " + what + ": numerator", x.area(0, i, j, 0), numerator);
        Checks.due("11 " + what + ": denominator", x.area(0, i, j, 1), denominator);
    }

    private static void promise11Area() {
        SmoothPieces x = new SmoothPieces();
        areas("of 0", x, 0, 1, 0, 1);
        Checks.fill(x, 0, Checks.row(1, 1, 1), Checks.row(0, -1, 0), Checks.row(0, 0, 1), Checks.row(-1, 0, 3));
        areas("11/6", x, 0, 1, 11, 6);
        areas("-1/2", x, 1, 2, -1, 2);
        areas("1/3", x, 2, 3, 1, 3);
        areas("pieces that cancel", x, 3, 4, 0, 1);
        areas("all", x, 0, 4, 5, 3);
        areas("-1/6", x, 1, 4, -1, 6);
        areas("nothing", x, 4, 4, 0, 1);
        areas("nothing", x, 0, 0, 0, 1);
        for (int part : new int[] {-1, 2, MIN, MAX}) {
            Checks.due("11 part outside", x.area(0, 0, 1, part), Checks.LEAST_LONG);
        }
        Checks.due("11 i above j", x.area(0, 2, 1, 0), Checks.LEAST_LONG);
        for (int knot : new int[] {-1, 5, 16, 17, MIN, MAX}) {
            Checks.due("11 no such knot", x.area(0, 0, knot, 0), Checks.LEAST_LONG);
            Checks.due("11 no such knot", x.area(0, knot, 4, 0), Checks.LEAST_LONG);
            Checks.due("11 no such knots", x.area(0, knot, knot, 0), Checks.LEAST_LONG);
        }
        for (int place : Checks.NO_PLACES) {
            Checks.due("11 no such place", x.area(place, 0, 1, 0), Checks.LEAST_LONG);
        }
        x.pieces(0, 16);
        for (int i = 0; i < 16; i++) {
            x.piece(0, i, -100000, -100000, -100000);
        }
        areas("the least", x, 0, 16, -8800000, 3);
    }

    private static void promise12Same() {
        SmoothPieces x = new SmoothPieces();
        Checks.due("12 new ones", x.same(0, 5), 1);
        Checks.due("12 itself", x.same(3, 3), 1);
        x.pieces(1, 2);
        Checks.due("12 more pieces", x.same(0, 1), 0);
        Checks.due("12 fewer pieces", x.same(1, 0), 0);
        for (int k = 0; k < 3; k++) {
            Checks.fill(x, 1, Checks.row(1, 2, 3), Checks.row(4, 5, 6));
            Checks.fill(x, 2, Checks.row(1, 2, 3), Checks.row(4, 5, 6));
            Checks.due("12 the same", x.same(1, 2), 1);
            x.piece(2, 1, k == 0 ? 0 : 4, k == 1 ? 0 : 5, k == 2 ? 0 : 6);
            Checks.due("12 other in " + k, x.same(1, 2), 0);
            x.piece(2, 1, 4, 5, 6);
            x.piece(2, 0, k == 0 ? 0 : 1, k == 1 ? 0 : 2, k == 2 ? 0 : 3);
            Checks.due("12 other in " + k + " of the first piece", x.same(1, 2), 0);
        }
        x.piece(2, 1, 7, 8, 9);
        x.pieces(1, 1);
        x.pieces(2, 1);
        Checks.due("12 what was behind does not count", x.same(1, 2), 1);
        x.pieces(3, 16);
        x.pieces(4, 16);
        Checks.due("12 16 pieces", x.same(3, 4), 1);
        x.piece(4, 15, 0, 0, 1);
        Checks.due("12 the last of 16 is other", x.same(3, 4), 0);
        for (int place : Checks.NO_PLACES) {
            Checks.due("12 no such place", x.same(place, 0), -2);
            Checks.due("12 no such place", x.same(0, place), -2);
        }
    }

    private static void promise13Meets() {
        SmoothPieces x = new SmoothPieces();
        Checks.due("13 the same", x.meets(0, 1), -4);
        Checks.due("13 itself", x.meets(0, 0), -4);
        Checks.fill(x, 0, Checks.row(0, 0, 1));
        Checks.fill(x, 1, Checks.row(0, 1, 0));
        Checks.due("13 at both ends", x.meets(0, 1), 2);
        Checks.fill(x, 0, Checks.row(0, 0, 1), Checks.row(5, 0, 1));
        Checks.due("13 not as many pieces", x.meets(0, 1), -4);
        Checks.due("13 not as many pieces", x.meets(1, 0), -4);
        Checks.fill(x, 1, Checks.row(0, 1, 0), Checks.row(0, 0, 0));
        Checks.due("13 from the left alone does not count", x.meets(0, 1), 1);
        Checks.fill(x, 1, Checks.row(3, 1, 0), Checks.row(5, 0, 1));
        Checks.due("13 same throughout a piece", x.meets(0, 1), -4);
        Checks.fill(x, 0, Checks.row(50000, -100000, 100000));
        Checks.fill(x, 1, Checks.row(1, 100000, -100000));
        Checks.due("13 a difference beyond the bounds", x.meets(0, 1), 2);
        Checks.due("13 the other way round", x.meets(1, 0), 2);
        Checks.fill(x, 1, Checks.row(0, 100000, -100000));
        Checks.due("13 they touch", x.meets(0, 1), 1);
        Checks.fill(x, 1, Checks.row(-1, 100000, -100000));
        Checks.due("13 they miss", x.meets(0, 1), 0);
        for (int place : Checks.NO_PLACES) {
            Checks.due("13 no such place", x.meets(place, 0), -2);
            Checks.due("13 no such place", x.meets(0, place), -2);
        }
        x.pieces(2, 16);
        x.pieces(3, 16);
        for (int i = 0; i < 16; i++) {
            x.piece(2, i, -1, 2, 0);
        }
        Checks.due("13 16 pieces", x.meets(2, 3), 16);
        Checks.isFilled("13 nothing changes", x, 0, Checks.row(50000, -100000, 100000));
        Checks.isFilled("13 nothing changes", x, 1, Checks.row(-1, 100000, -100000));
    }
}
