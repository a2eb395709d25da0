import java.util.ArrayList;
import java.util.List;

/** Objects in a state that is told, and all that can be seen of an object: to test that a call changes nothing. */
final class State {
    /** The row of what can be seen that tells of the points; rows 0 to 5 tell of the places. */
    static final int POINTS = 6;

    private State() {
    }

    interface Call {
        long on(SmoothPieces x);
    }

    /**
     * Place 0 has 1 piece, 1 has 3, 2 has 3 of which one is 0 throughout, 3 has 9, 4 has 16 at the bounds, 5 has 3.
     * Some seventy calls at most.
     */
    static SmoothPieces full(int points) {
        SmoothPieces x = new SmoothPieces();
        x.piece(0, 0, 1, 2, 3);
        fill(x, 1, Checks.row(-1, 0, 4), Checks.row(3, 8, 1), Checks.row(-5, 4, 7));
        fill(x, 2, Checks.row(-1, 2, 0), Checks.row(0, 0, 0), Checks.row(7, -8, 9));
        x.pieces(3, 9);
        x.pieces(4, 16);
        for (int i = 0; i < 9; i++) {
            x.piece(3, i, i + 1, -i, 2 * i);
        }
        for (int i = 0; i < 16; i++) {
            int sign = i % 2 == 0 ? 1 : -1;
            x.piece(4, i, sign * (100000 - i), sign * (i - 100000), sign * 100000);
        }
        fill(x, 5, Checks.row(50001, 50001, 50001), Checks.row(1, 1, 1), Checks.row(-50001, -50001, -50001));
        for (int k = 0; k < points; k++) {
            x.point(7 * k * k - 50 * k + 3);
        }
        return x;
    }

    private static void fill(SmoothPieces x, int place, int[]... rows) {
        x.pieces(place, rows.length);
        for (int i = 0; i < rows.length; i++) {
            x.piece(place, i, rows[i][0], rows[i][1], rows[i][2]);
        }
    }

    /** All that can be seen: a row for each place and one for the points. It uses the object up, by some 300 calls. */
    static List<String> seen(SmoothPieces x) {
        List<String> rows = new ArrayList<>();
        for (int place = 0; place < 6; place++) {
            rows.add(seenOfPlace(x, place));
        }
        rows.add(seenOfPoints(x));
        return rows;
    }

    private static String seenOfPlace(SmoothPieces x, int place) {
        StringBuilder built = new StringBuilder("place " + place + ":" + pieces(x, place));
        built.append(" zeros ").append(x.zeros(place)).append(" first ").append(x.zero(place, 0));
        built.append(" ends ").append(x.end(place, 0)).append(' ').append(x.end(place, 1));
        built.append(" joints ").append(x.count(place, 1)).append(' ').append(x.count(place, 2));
        return built.toString();
    }

    private static String pieces(SmoothPieces x, int place) {
        StringBuilder built = new StringBuilder();
        int n = x.count(place, 0);
        for (int i = 0; i < n; i++) {
            built.append(' ').append(x.of(place, i, 0)).append(',').append(x.of(place, i, 1)).append(',');
            built.append(x.of(place, i, 2)).append(';');
        }
        return built.toString();
    }

    /** A further point and a spline by 0 show all points, a single one too. */
    private static String seenOfPoints(SmoothPieces x) {
        StringBuilder built = new StringBuilder("points: bend " + x.bend(0) + " " + x.bend(-7) + " best " + x.best(0));
        for (int shape = 1; shape <= 4; shape++) {
            built.append(" slopes ").append(x.slopes(shape, 0)).append(' ').append(x.slopes(shape, 2));
        }
        built.append(" one more ").append(x.point(1));
        int made = x.spline(0, 0);
        built.append(" spline ").append(made).append(made == 1 ? pieces(x, 0) : "");
        built.append(" cleared ").append(x.clear());
        return built.toString();
    }

    /** What a call answers, and that all rows but the one that it may change stay; -1: it may change none. */
    static void due(String what, SmoothPieces x, List<String> before, Call call, long want, int mayChange) {
        Checks.due(what, call.on(x), want);
        List<String> after = seen(x);
        for (int row = 0; row < before.size(); row++) {
            if (row != mayChange) {
                Checks.holds(what + " changes nothing in " + before.get(row) + " but now it is " + after.get(row),
                        after.get(row).equals(before.get(row)));
            }
        }
    }
}
