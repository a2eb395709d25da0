import java.lang.reflect.Method;
import java.util.ArrayList;
import java.util.HashMap;
import java.util.List;
import java.util.Map;

/**
 * Each call with a set of edge numbers for each argument (of five arguments the sets are smaller), in all combinations
 * of these sets, each time on an object of its own in a full state: its answer and all places and points behind it are
 * compared with the slow model's.
 */
public final class SweepTest {
    private static final int MIN = Integer.MIN_VALUE, MAX = Integer.MAX_VALUE;
    private static final int[] PLACE = {MIN, -1, 0, 1, 2, 3, 4, 5, 6, MAX};
    private static final int[] FEW_PLACES = {-1, 0, 1, 4, 5, 6};
    private static final int[] PIECE = {MIN, -1, 0, 1, 2, 3, 8, 9, 15, 16, 17, MAX};
    private static final int[] SMALL = {MIN, -1, 0, 1, 2, 3, 4, 5, 6, MAX};
    private static final int[] PART = {MIN, -1, 0, 1, 2, MAX};
    private static final int[] COEFFICIENT = {MIN, -100001, -100000, 0, 7, 100000, 100001, MAX};
    private static final int[] FACTOR = {MIN, -101, -100, -1, 0, 1, 2, 100, 101, MAX};
    private static final int[] SLOPE = {MIN, -1001, -1000, -999, -1, 0, 1, 5, 999, 1000, 1001, MAX};
    private static final int[] FRACTION_OVER = {MIN, -64, -1, 0, 1, 2, 3, 4, 31, 63, 64, 65, 190, 191, 192, 193, 1023,
        1024, 1025, MAX};
    private static final int[] FRACTION_UNDER = {MIN, -1, 0, 1, 2, 3, 62, 63, 64, 65, MAX};
    private static final int[] BEFORE_POINTS = {2};
    private static final int[] ALL_POINTS = {0, 1, 2, 3, 16, 17};

    private static final Map<String, Method> REAL = methodsOf(SmoothPieces.class);
    private static final Map<String, Method> MODEL = methodsOf(SlowModel.class);

    private SweepTest() {
    }

    public static void main(String[] args) {
        sweep("pieces", BEFORE_POINTS, PLACE, new int[] {MIN, -1, 0, 1, 2, 8, 15, 16, 17, MAX});
        sweep("piece", BEFORE_POINTS, new int[] {-1, 0, 4, 6}, new int[] {-1, 0, 2, 15, 16}, COEFFICIENT, COEFFICIENT,
                COEFFICIENT);
        sweep("of", BEFORE_POINTS, PLACE, PIECE, SMALL);
        sweep("value", BEFORE_POINTS, FEW_PLACES, FRACTION_OVER, FRACTION_UNDER, PART);
        sweep("join", BEFORE_POINTS, PLACE, PIECE);
        sweep("has", BEFORE_POINTS, PLACE, SMALL);
        sweep("end", BEFORE_POINTS, PLACE, PART);
        sweep("zeros", BEFORE_POINTS, PLACE);
        sweep("zero", BEFORE_POINTS, PLACE, new int[] {MIN, -1, 0, 1, 2, 3, 15, 16, 31, 32, 33, MAX});
        sweep("area", BEFORE_POINTS, PLACE, PIECE, PIECE, PART);
        sweep("same", BEFORE_POINTS, PLACE, PLACE);
        sweep("meets", BEFORE_POINTS, PLACE, PLACE);
        sweep("mix", BEFORE_POINTS, new int[] {-1, 0, 5, 6}, FEW_PLACES, FACTOR, FEW_PLACES, FACTOR);
        sweep("refine", BEFORE_POINTS, PLACE, PLACE);
        sweep("slope", BEFORE_POINTS, PLACE, PLACE);
        sweep("push", BEFORE_POINTS, PLACE, new int[] {MIN, -100001, -100000, -99985, -49999, -1, 0, 1, 15, 16, 49999,
            50000, 99984, 99991, 99992, 99999, 100000, 100001, MAX});
        sweep("point", ALL_POINTS, SLOPE);
        sweep("clear", ALL_POINTS);
        sweep("slopes", ALL_POINTS, SMALL, SMALL);
        sweep("best", ALL_POINTS, SMALL);
        sweep("bend", ALL_POINTS, SLOPE);
        sweep("spline", ALL_POINTS, PLACE, SLOPE);
        sweep("count", BEFORE_POINTS, PLACE, SMALL);
        Checks.finish("SweepTest");
    }

    private static Map<String, Method> methodsOf(Class<?> owner) {
        Map<String, Method> found = new HashMap<>();
        for (Method method : owner.getDeclaredMethods()) {
            found.put(method.getName(), method);
        }
        return found;
    }

    private static long call(Object on, String name, Object... args) {
        try {
            Method method = (on instanceof SmoothPieces ? REAL : MODEL).get(name);
            return ((Number) method.invoke(on, args)).longValue();
        } catch (ReflectiveOperationException failed) {
            throw new IllegalStateException(name + " failed", failed);
        }
    }

    private static void sweep(String name, int[] points, int[]... edges) {
        for (int many : points) {
            sweep(name, many, edges, new Object[edges.length], 0);
        }
    }

    private static void sweep(String name, int points, int[][] edges, Object[] args, int next) {
        if (next == edges.length) {
            compare(name, points, args);
            return;
        }
        for (int edge : edges[next]) {
            args[next] = edge;
            sweep(name, points, edges, args, next + 1);
        }
    }

    private static void compare(String name, int points, Object[] args) {
        Object real = fill(new SmoothPieces(), points);
        Object model = fill(new SlowModel(), points);
        long got = call(real, name, args);
        long want = call(model, name, args);
        String states = seen(real);
        String due = seen(model);
        if (got != want || !states.equals(due)) {
            String what = name + List.of(args) + " with " + points + " points";
            Checks.due(what, got, want);
            Checks.holds(what + ": behind it is " + states + " and should be " + due, states.equals(due));
        } else {
            Checks.due(name, got, want);
        }
    }

    private static Object fill(Object x, int points) {
        int[] sizes = {1, 3, 3, 9, 16, 3};
        for (int place = 0; place < 6; place++) {
            call(x, "pieces", place, sizes[place]);
            for (int i = 0; i < sizes[place]; i++) {
                int[] row = row(place, i);
                call(x, "piece", place, i, row[0], row[1], row[2]);
            }
        }
        for (int k = 0; k < points; k++) {
            call(x, "point", 3 * k * k - 20 * k + k % 2);
        }
        return x;
    }

    private static int[] row(int place, int i) {
        int sign = i % 2 == 0 ? 1 : -1;
        switch (place) {
            case 1:
                return Checks.row(i - 1, 4 * i - 2, 3 - i);
            case 2:
                return Checks.row(i - 1, 2 * i - 2, 0);
            case 3:
                return Checks.row(i, 3 - i, 2 * i);
            case 4:
                return Checks.row(sign * (15 + i), sign * -100, sign * (100000 - i));
            case 5:
                return Checks.row(50001 - i, sign * 50000, i - 50001);
            default:
                return Checks.row(-16, 0, 25);
        }
    }

    /** All places, and the points by a further one and a spline. */
    private static String seen(Object x) {
        StringBuilder built = new StringBuilder();
        for (int place = 0; place < 6; place++) {
            pieces(x, place, built);
        }
        List<Long> answers = new ArrayList<>();
        answers.add(call(x, "point", 1));
        answers.add(call(x, "spline", 3, 0));
        answers.add(call(x, "clear"));
        built.append("points ").append(answers);
        pieces(x, 3, built);
        return built.toString();
    }

    private static void pieces(Object x, int place, StringBuilder built) {
        long n = call(x, "count", place, 0);
        built.append(place).append(':');
        for (int i = 0; i < n; i++) {
            for (int what = 0; what < 3; what++) {
                built.append(call(x, "of", place, i, what)).append(what == 2 ? ';' : ',');
            }
        }
    }
}
