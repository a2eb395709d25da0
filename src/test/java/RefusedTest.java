import java.util.HashMap;
import java.util.List;
import java.util.Map;

/**
 * "Refused, and nothing changes: UNKNOWN (no such PLACE, PIECE, KNOT, ZERO), OUTSIDE (another number is not as told),
 * NOT (not now: as told), GREAT (a, b, c beyond their bounds), FULL: the first of these that fits."
 * Every refusal of every call, each on an object of its own in a full state: its answer, and that nothing has changed.
 */
public final class RefusedTest {
    private static final int MIN = Integer.MIN_VALUE, MAX = Integer.MAX_VALUE;
    private static final int UNKNOWN = -2, OUTSIDE = -3, NOT = -4, GREAT = -5, FULL = -6;
    private static final long LEAST_INT = Checks.LEAST_INT, LEAST_LONG = Checks.LEAST_LONG;
    private static final int[] NO_PLACES = {-1, 6, MIN, MAX};
    private static final int[] BEYOND_COEFFICIENT = {100001, -100001, MIN, MAX};
    private static final int[] BEYOND_FACTOR = {101, -101, MIN, MAX};
    private static final int[] BEYOND_SLOPE = {1001, -1001, MIN, MAX};
    /** None, one, the fewest for a spline, and as many as there can be. */
    private static final int[] ALL_POINTS = {0, 1, 2, 17};
    private static final int[] TOO_FEW = {0, 1};
    private static final int[] ENOUGH = {2, 17};

    private static final Map<Integer, List<String>> BEFORE = new HashMap<>();

    private RefusedTest() {
    }

    public static void main(String[] args) {
        pieces();
        piece();
        of();
        value();
        join();
        has();
        end();
        zeros();
        zero();
        area();
        same();
        meets();
        mixUnknown();
        mixOther();
        refine();
        slope();
        push();
        point();
        slopes();
        best();
        bend();
        spline();
        count();
        againAndAgain();
        newObject();
        Checks.finish("RefusedTest");
    }

    private static void refused(String what, long due, int[] points, State.Call call) {
        for (int many : points) {
            List<String> before = BEFORE.computeIfAbsent(many, k -> State.seen(State.full(k)));
            State.due(what + ", with " + many + " points", State.full(many), before, call, due, -1);
        }
    }

    private static void refused(String what, long due, State.Call call) {
        refused(what, due, ALL_POINTS, call);
    }

    private static void pieces() {
        for (int place : NO_PLACES) {
            refused("pieces: no place " + place, UNKNOWN, x -> x.pieces(place, 2));
            refused("pieces: UNKNOWN ahead of OUTSIDE", UNKNOWN, x -> x.pieces(place, 0));
        }
        for (int n : new int[] {0, -1, 17, MIN, MAX}) {
            refused("pieces: n " + n, OUTSIDE, x -> x.pieces(0, n));
            refused("pieces: n " + n + " in place of 16", OUTSIDE, x -> x.pieces(4, n));
        }
    }

    private static void piece() {
        for (int place : NO_PLACES) {
            refused("piece: no place " + place, UNKNOWN, x -> x.piece(place, 0, 1, 1, 1));
            refused("piece: place UNKNOWN ahead of GREAT", UNKNOWN, x -> x.piece(place, 0, 100001, 1, 1));
        }
        for (int i : new int[] {-1, 3, 15, 16, MIN, MAX}) {
            refused("piece: no piece " + i + " of 3", UNKNOWN, x -> x.piece(1, i, 5, 5, 5));
            refused("piece: piece UNKNOWN ahead of GREAT", UNKNOWN, x -> x.piece(1, i, 5, 5, 100001));
        }
        refused("piece: no piece 1 of 1", UNKNOWN, x -> x.piece(0, 1, 5, 5, 5));
        refused("piece: no piece 16 of 16", UNKNOWN, x -> x.piece(4, 16, 5, 5, 5));
        for (int beyond : BEYOND_COEFFICIENT) {
            refused("piece: a " + beyond, GREAT, x -> x.piece(1, 1, beyond, 5, 5));
            refused("piece: b " + beyond, GREAT, x -> x.piece(1, 1, 5, beyond, 5));
            refused("piece: c " + beyond, GREAT, x -> x.piece(1, 1, 5, 5, beyond));
        }
    }

    private static void of() {
        for (int place : NO_PLACES) {
            refused("of: no place " + place, LEAST_INT, x -> x.of(place, 0, 0));
        }
        for (int i : new int[] {-1, 3, 16, MIN, MAX}) {
            refused("of: no piece " + i + " of 3", LEAST_INT, x -> x.of(1, i, 0));
        }
        refused("of: no piece 16 of 16", LEAST_INT, x -> x.of(4, 16, 0));
        for (int what : new int[] {-1, 3, MIN, MAX}) {
            refused("of: what " + what, LEAST_INT, x -> x.of(1, 0, what));
        }
    }

    private static void value() {
        for (int part = 0; part < 2; part++) {
            int asked = part;
            for (int place : NO_PLACES) {
                refused("value: no place " + place, LEAST_LONG, x -> x.value(place, 0, 1, asked));
            }
            for (int v : new int[] {0, -1, 65, MIN, MAX}) {
                refused("value: v " + v, LEAST_LONG, x -> x.value(1, 0, v, asked));
                refused("value: v " + v + ", u as great", LEAST_LONG, x -> x.value(1, v, v, asked));
            }
            for (int u : new int[] {-1, -64, 193, MIN, MAX}) {
                refused("value: u " + u + " of 64, 3 pieces", LEAST_LONG, x -> x.value(1, u, 64, asked));
            }
            refused("value: x = 4 of 3 pieces", LEAST_LONG, x -> x.value(1, 4, 1, asked));
            refused("value: x = 1025 / 64 of 16 pieces", LEAST_LONG, x -> x.value(4, 1025, 64, asked));
            refused("value: x = -1 / 64", LEAST_LONG, x -> x.value(4, -1, 64, asked));
        }
        for (int part : new int[] {-1, 2, MIN, MAX}) {
            refused("value: part " + part, LEAST_LONG, x -> x.value(1, 0, 1, part));
        }
    }

    private static void join() {
        for (int place : NO_PLACES) {
            refused("join: no place " + place, UNKNOWN, x -> x.join(place, 1));
        }
        for (int knot : new int[] {0, -1, 3, 4, MIN, MAX}) {
            refused("join: no knot " + knot + " inside 3 pieces", UNKNOWN, x -> x.join(1, knot));
        }
        refused("join: one piece has no knot inside", UNKNOWN, x -> x.join(0, 1));
        refused("join: no knot 16 inside 16 pieces", UNKNOWN, x -> x.join(4, 16));
    }

    private static void has() {
        for (int place : NO_PLACES) {
            refused("has: no place " + place, UNKNOWN, x -> x.has(place, 1));
            refused("has: UNKNOWN ahead of OUTSIDE", UNKNOWN, x -> x.has(place, 0));
        }
        for (int shape : new int[] {0, -1, 5, MIN, MAX}) {
            refused("has: shape " + shape, OUTSIDE, x -> x.has(1, shape));
        }
    }

    private static void end() {
        for (int place : NO_PLACES) {
            refused("end: no place " + place, LEAST_INT, x -> x.end(place, 0));
            refused("end: no place " + place, LEAST_INT, x -> x.end(place, 1));
        }
        for (int way : new int[] {-1, 2, MIN, MAX}) {
            refused("end: way " + way, LEAST_INT, x -> x.end(1, way));
        }
    }

    private static void zeros() {
        for (int place : NO_PLACES) {
            refused("zeros: no place " + place, UNKNOWN, x -> x.zeros(place));
        }
        refused("zeros: a piece is 0 throughout", NOT, x -> x.zeros(2));
    }

    private static void zero() {
        for (int place : NO_PLACES) {
            refused("zero: no place " + place, UNKNOWN, x -> x.zero(place, 0));
        }
        for (int k : new int[] {0, 1, -1, MIN, MAX}) {
            refused("zero: NOT ahead of no zero " + k, NOT, x -> x.zero(2, k));
            refused("zero: no zero " + k + " of none", UNKNOWN, x -> x.zero(0, k));
        }
        // Place 1 has two zeros: at 1/2, and in its last piece.
        for (int k : new int[] {2, 3, -1, MIN, MAX}) {
            refused("zero: no zero " + k + " of two", UNKNOWN, x -> x.zero(1, k));
        }
    }

    private static void area() {
        for (int part = 0; part < 2; part++) {
            int asked = part;
            for (int place : NO_PLACES) {
                refused("area: no place " + place, LEAST_LONG, x -> x.area(place, 0, 1, asked));
            }
            for (int knot : new int[] {-1, 4, 16, 17, MIN, MAX}) {
                refused("area: from knot " + knot + " of 3 pieces", LEAST_LONG, x -> x.area(1, knot, 3, asked));
                refused("area: to knot " + knot + " of 3 pieces", LEAST_LONG, x -> x.area(1, 0, knot, asked));
                refused("area: from and to knot " + knot, LEAST_LONG, x -> x.area(1, knot, knot, asked));
            }
            refused("area: to knot 17 of 16 pieces", LEAST_LONG, x -> x.area(4, 0, 17, asked));
            refused("area: i above j by one", LEAST_LONG, x -> x.area(1, 1, 0, asked));
            refused("area: i above j", LEAST_LONG, x -> x.area(1, 3, 0, asked));
        }
        for (int part : new int[] {-1, 2, MIN, MAX}) {
            refused("area: part " + part, LEAST_LONG, x -> x.area(1, 0, 1, part));
        }
    }

    private static void same() {
        for (int place : NO_PLACES) {
            refused("same: no one " + place, UNKNOWN, x -> x.same(place, 1));
            refused("same: no two " + place, UNKNOWN, x -> x.same(1, place));
            refused("same: neither " + place, UNKNOWN, x -> x.same(place, place));
        }
    }

    private static void meets() {
        for (int place : NO_PLACES) {
            refused("meets: no one " + place, UNKNOWN, x -> x.meets(place, 1));
            refused("meets: no two " + place, UNKNOWN, x -> x.meets(1, place));
            refused("meets: neither " + place, UNKNOWN, x -> x.meets(place, place));
        }
        refused("meets: not as many pieces, fewer", NOT, x -> x.meets(0, 1));
        refused("meets: not as many pieces, more", NOT, x -> x.meets(4, 3));
        refused("meets: the same throughout, itself", NOT, x -> x.meets(4, 4));
    }

    private static void mixUnknown() {
        for (int place : NO_PLACES) {
            refused("mix: no place " + place, UNKNOWN, x -> x.mix(place, 1, 1, 2, 1));
            refused("mix: no one " + place, UNKNOWN, x -> x.mix(0, place, 1, 2, 1));
            refused("mix: no two " + place, UNKNOWN, x -> x.mix(0, 1, 1, place, 1));
            refused("mix: place UNKNOWN ahead of OUTSIDE", UNKNOWN, x -> x.mix(place, 1, 101, 2, 1));
            refused("mix: one UNKNOWN ahead of OUTSIDE", UNKNOWN, x -> x.mix(0, place, 1, 2, 101));
            refused("mix: two UNKNOWN ahead of OUTSIDE", UNKNOWN, x -> x.mix(0, 1, 101, place, 1));
            refused("mix: UNKNOWN ahead of NOT", UNKNOWN, x -> x.mix(place, 0, 1, 1, 1));
            refused("mix: UNKNOWN ahead of GREAT", UNKNOWN, x -> x.mix(place, 4, 100, 4, 100));
        }
    }

    private static void mixOther() {
        for (int beyond : BEYOND_FACTOR) {
            refused("mix: p " + beyond, OUTSIDE, x -> x.mix(1, 1, beyond, 2, 1));
            refused("mix: q " + beyond, OUTSIDE, x -> x.mix(1, 1, 1, 2, beyond));
            refused("mix: OUTSIDE ahead of NOT", OUTSIDE, x -> x.mix(1, 0, 1, 1, beyond));
            refused("mix: OUTSIDE ahead of GREAT", OUTSIDE, x -> x.mix(1, 4, beyond, 4, 1));
        }
        refused("mix: not as many pieces, fewer", NOT, x -> x.mix(1, 0, 1, 1, 1));
        refused("mix: not as many pieces, more", NOT, x -> x.mix(1, 4, 0, 3, 0));
        refused("mix: NOT ahead of GREAT", NOT, x -> x.mix(1, 4, 100, 1, 100));
        refused("mix: great", GREAT, x -> x.mix(1, 5, 2, 1, 0));
        refused("mix: great below", GREAT, x -> x.mix(1, 5, -2, 1, 0));
        refused("mix: great in place of one", GREAT, x -> x.mix(5, 5, 1, 5, 1));
        refused("mix: great in place of two", GREAT, x -> x.mix(5, 1, 0, 5, 100));
        refused("mix: 16 great ones", GREAT, x -> x.mix(0, 4, 100, 4, 100));
    }

    private static void refine() {
        for (int place : NO_PLACES) {
            refused("refine: no place " + place, UNKNOWN, x -> x.refine(place, 1));
            refused("refine: no other " + place, UNKNOWN, x -> x.refine(1, place));
            refused("refine: UNKNOWN ahead of NOT", UNKNOWN, x -> x.refine(place, 3));
            refused("refine: UNKNOWN ahead of GREAT", UNKNOWN, x -> x.refine(place, 5));
        }
        refused("refine: 9 pieces", NOT, x -> x.refine(1, 3));
        refused("refine: 9 pieces of its own", NOT, x -> x.refine(3, 3));
        refused("refine: 16 pieces, NOT ahead of GREAT", NOT, x -> x.refine(1, 4));
        refused("refine: great", GREAT, x -> x.refine(1, 5));
        refused("refine: great of its own", GREAT, x -> x.refine(5, 5));
    }

    private static void slope() {
        for (int place : NO_PLACES) {
            refused("slope: no place " + place, UNKNOWN, x -> x.slope(place, 1));
            refused("slope: no other " + place, UNKNOWN, x -> x.slope(1, place));
            refused("slope: UNKNOWN ahead of GREAT", UNKNOWN, x -> x.slope(place, 5));
        }
        refused("slope: great", GREAT, x -> x.slope(1, 5));
        refused("slope: great of its own", GREAT, x -> x.slope(5, 5));
        refused("slope: 16 great ones", GREAT, x -> x.slope(0, 4));
    }

    private static void push() {
        for (int place : NO_PLACES) {
            refused("push: no place " + place, UNKNOWN, x -> x.push(place, 1));
            refused("push: UNKNOWN ahead of OUTSIDE", UNKNOWN, x -> x.push(place, 100001));
        }
        for (int beyond : BEYOND_COEFFICIENT) {
            refused("push: v " + beyond, OUTSIDE, x -> x.push(1, beyond));
            refused("push: OUTSIDE ahead of GREAT", OUTSIDE, x -> x.push(4, beyond));
        }
        refused("push: great at the first piece", GREAT, x -> x.push(5, 50000));
        refused("push: great at the last piece alone", GREAT, x -> x.push(5, -50000));
        refused("push: one too many", GREAT, x -> x.push(4, 1));
    }

    private static void point() {
        for (int y : BEYOND_SLOPE) {
            refused("point: y " + y, OUTSIDE, x -> x.point(y));
            refused("point: OUTSIDE ahead of FULL", OUTSIDE, new int[] {17}, x -> x.point(y));
        }
        refused("point: full", FULL, new int[] {17}, x -> x.point(0));
        refused("point: full", FULL, new int[] {17}, x -> x.point(1000));
    }

    private static void slopes() {
        for (int wrong : new int[] {-1, 5, MIN, MAX}) {
            refused("slopes: shape " + wrong, LEAST_INT, x -> x.slopes(wrong, 0));
            refused("slopes: shape " + wrong, LEAST_INT, x -> x.slopes(wrong, 2));
        }
        for (int wrong : new int[] {-1, 3, MIN, MAX}) {
            refused("slopes: what " + wrong, LEAST_INT, x -> x.slopes(0, wrong));
            refused("slopes: what " + wrong, LEAST_INT, x -> x.slopes(4, wrong));
        }
        for (int shape = 0; shape <= 4; shape++) {
            for (int what = 0; what <= 2; what++) {
                int ofShape = shape;
                int asked = what;
                refused("slopes: too few points", LEAST_INT, TOO_FEW, x -> x.slopes(ofShape, asked));
            }
        }
    }

    private static void best() {
        for (int wrong : new int[] {-1, 5, MIN, MAX}) {
            refused("best: shape " + wrong, LEAST_INT, x -> x.best(wrong));
        }
        for (int shape = 0; shape <= 4; shape++) {
            int ofShape = shape;
            refused("best: too few points", LEAST_INT, TOO_FEW, x -> x.best(ofShape));
        }
    }

    private static void bend() {
        for (int s : BEYOND_SLOPE) {
            refused("bend: s " + s, OUTSIDE, ENOUGH, x -> x.bend(s));
            refused("bend: OUTSIDE ahead of NOT", OUTSIDE, TOO_FEW, x -> x.bend(s));
        }
        for (int s : new int[] {0, 1000, -1000}) {
            refused("bend: too few points", NOT, TOO_FEW, x -> x.bend(s));
        }
    }

    private static void spline() {
        for (int place : NO_PLACES) {
            refused("spline: no place " + place, UNKNOWN, ENOUGH, x -> x.spline(place, 0));
            refused("spline: UNKNOWN ahead of OUTSIDE", UNKNOWN, ENOUGH, x -> x.spline(place, 1001));
            refused("spline: UNKNOWN ahead of NOT", UNKNOWN, TOO_FEW, x -> x.spline(place, 0));
        }
        for (int s : BEYOND_SLOPE) {
            refused("spline: s " + s, OUTSIDE, ENOUGH, x -> x.spline(1, s));
            refused("spline: OUTSIDE ahead of NOT", OUTSIDE, TOO_FEW, x -> x.spline(1, s));
        }
        for (int s : new int[] {0, 1000, -1000}) {
            refused("spline: too few points", NOT, TOO_FEW, x -> x.spline(1, s));
        }
    }

    private static void count() {
        for (int place : NO_PLACES) {
            for (int what = 0; what <= 2; what++) {
                int asked = what;
                refused("count: no place " + place, UNKNOWN, x -> x.count(place, asked));
            }
            refused("count: UNKNOWN ahead of OUTSIDE", UNKNOWN, x -> x.count(place, 3));
        }
        for (int what : new int[] {-1, 3, MIN, MAX}) {
            refused("count: what " + what, OUTSIDE, x -> x.count(1, what));
        }
    }

    /** What is refused once is refused again, and many refusals change as little as one. */
    private static void againAndAgain() {
        refused("again and again", FULL, new int[] {17}, x -> {
            for (int k = 0; k < 8; k++) {
                x.pieces(1, 17);
                x.piece(1, 0, 0, 0, 100001);
                x.mix(1, 5, 100, 5, 100);
                x.refine(1, 5);
                x.slope(1, 5);
                x.push(4, 1);
                x.point(0);
                x.spline(1, 1001);
            }
            return x.point(0);
        });
    }

    private static void newObject() {
        List<String> before = State.seen(new SmoothPieces());
        State.due("new: pieces", new SmoothPieces(), before, x -> x.pieces(0, 0), OUTSIDE, -1);
        State.due("new: piece", new SmoothPieces(), before, x -> x.piece(0, 1, 1, 1, 1), UNKNOWN, -1);
        State.due("new: piece", new SmoothPieces(), before, x -> x.piece(0, 0, 1, 1, 100001), GREAT, -1);
        State.due("new: push", new SmoothPieces(), before, x -> x.push(0, 100001), OUTSIDE, -1);
        State.due("new: mix", new SmoothPieces(), before, x -> x.mix(0, 0, 101, 0, 0), OUTSIDE, -1);
        State.due("new: zeros", new SmoothPieces(), before, x -> x.zeros(0), NOT, -1);
        State.due("new: meets", new SmoothPieces(), before, x -> x.meets(0, 1), NOT, -1);
        State.due("new: point", new SmoothPieces(), before, x -> x.point(1001), OUTSIDE, -1);
        State.due("new: spline", new SmoothPieces(), before, x -> x.spline(0, 0), NOT, -1);
        State.due("new: clear", new SmoothPieces(), before, x -> x.clear(), 0, -1);
    }
}
