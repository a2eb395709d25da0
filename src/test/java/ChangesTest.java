import java.util.List;

/** Calls that only tell change nothing; the others change the one place, or the points, that they are about. */
public final class ChangesTest {
    private static final List<String> BEFORE = State.seen(State.full(5));

    private ChangesTest() {
    }

    public static void main(String[] args) {
        told();
        toldOfPoints();
        changed();
        changedInItsOwnPlace();
        changedPoints();
        Checks.finish("ChangesTest");
    }

    private static void due(String what, long want, int mayChange, State.Call call) {
        State.due(what, State.full(5), BEFORE, call, want, mayChange);
    }

    private static void told(String what, long want, State.Call call) {
        due(what, want, -1, call);
    }

    private static void told() {
        told("of", 8, x -> x.of(1, 1, 1));
        told("value", 29, x -> x.value(1, 3, 2, 0));
        told("value's denominator", 4, x -> x.value(1, 3, 2, 1));
        told("join", 1, x -> x.join(1, 1));
        told("has", 1, x -> x.has(0, 3));
        told("has not", 0, x -> x.has(1, 1));
        told("top", 12, x -> x.end(1, 0));
        told("bottom", -5, x -> x.end(1, 1));
        told("zeros", 2, x -> x.zeros(1));
        told("zero", 32, x -> x.zero(1, 0));
        told("area", 7, x -> x.area(1, 0, 3, 0));
        told("area's denominator", 1, x -> x.area(1, 1, 1, 1));
        told("same", 1, x -> x.same(4, 4));
        told("not the same", 0, x -> x.same(1, 2));
        told("meets", 2, x -> x.meets(1, 2));
        told("count", 16, x -> x.count(4, 0));
        told("jumps", 1, x -> x.count(1, 1));
        told("smooth knots", 0, x -> x.count(1, 2));
    }

    /** The points are 3, -40, -69, -84, -85: c is -43 - s or 57 + s in turn. */
    private static void toldOfPoints() {
        told("any slope", 2001, x -> x.slopes(0, 2));
        told("least slope", -57, x -> x.slopes(3, 0));
        told("greatest slope", -43, x -> x.slopes(3, 1));
        told("best", -50, x -> x.best(0));
        told("bend", 7 * 7 + 7 * 7 + 7 * 7 + 7 * 7, x -> x.bend(-50));
    }

    private static void changed() {
        for (int place = 0; place < 6; place++) {
            int at = place;
            due("pieces in " + place, 1, place, x -> x.pieces(at, 2));
            due("piece in " + place, 1, place, x -> x.piece(at, 0, 9, 8, 7));
            due("mix in " + place, 1, place, x -> x.mix(at, 1, 2, 2, -3));
            due("refine in " + place, 1, place, x -> x.refine(at, 1));
            due("slope in " + place, 1, place, x -> x.slope(at, 3));
            due("push in " + place, 1, place, x -> x.push(at, 0));
            due("spline in " + place, 1, place, x -> x.spline(at, 3));
        }
    }

    private static void changedInItsOwnPlace() {
        due("mix of itself", 1, 1, x -> x.mix(1, 1, 2, 1, -3));
        due("mix in place of two", 1, 2, x -> x.mix(2, 1, 2, 2, -3));
        due("refine of itself", 1, 1, x -> x.refine(1, 1));
        due("slope of itself", 1, 1, x -> x.slope(1, 1));
        // What is there already comes in its own place: nothing is another then.
        told("mix once itself", 1, x -> x.mix(4, 4, 1, 4, 0));
        told("push by 0", 1, x -> x.push(4, 0));
        told("piece as it is", 1, x -> x.piece(1, 1, 3, 8, 1));
    }

    private static void changedPoints() {
        due("point", 6, State.POINTS, x -> x.point(7));
        due("clear", 5, State.POINTS, x -> x.clear());
    }
}
