/** Counts what is not as due, and ends a test's program with exit code 1 if there was something. */
final class Checks {
    static final long LEAST_INT = Integer.MIN_VALUE;
    static final long LEAST_LONG = Long.MIN_VALUE;
    /** No place, piece, knot or zero has one of these numbers. */
    static final int[] NO_PLACES = {-1, 6, 7, Integer.MIN_VALUE, Integer.MAX_VALUE};

    private static int wrong = 0;
    private static int done = 0;

    private Checks() {
    }

    static void due(String what, long got, long want) {
        done++;
        if (got != want) {
            wrong++;
            System.out.println(what + " answered " + got + ", due is " + want);
        }
    }

    static void holds(String what, boolean isSo) {
        done++;
        if (!isSo) {
            wrong++;
            System.out.println(what + ": is not so");
        }
    }

    static boolean anyWrong() {
        return wrong != 0;
    }

    static void finish(String test) {
        System.out.println(test + ": " + done + " checks, " + wrong + " wrong");
        if (wrong != 0 || done == 0) {
            System.exit(1);
        }
    }

    /** A function in a place from rows of a, b, c. */
    static void fill(SmoothPieces x, int place, int[]... rows) {
        due("pieces", x.pieces(place, rows.length), 1);
        for (int i = 0; i < rows.length; i++) {
            due("piece " + i, x.piece(place, i, rows[i][0], rows[i][1], rows[i][2]), 1);
        }
    }

    static void isFilled(String what, SmoothPieces x, int place, int[]... rows) {
        due(what + ": pieces", x.count(place, 0), rows.length);
        for (int i = 0; i < rows.length; i++) {
            for (int k = 0; k < 3; k++) {
                due(what + ": piece " + i + ", " + k, x.of(place, i, k), rows[i][k]);
            }
        }
    }

    static int[] row(int a, int b, int c) {
        return new int[] {a, b, c};
    }

    static void points(SmoothPieces x, int... ys) {
        for (int y : ys) {
            x.point(y);
        }
    }

    static void fraction(String what, SmoothPieces x, int place, int u, int v, long numerator, long denominator) {
        due(what + " numerator", x.value(place, u, v, 0), numerator);
        due(what + " denominator", x.value(place, u, v, 1), denominator);
    }

    static void boxes(String what, SmoothPieces x, int place, int... due) {
        due(what + ": zeros", x.zeros(place), due.length);
        for (int k = 0; k < due.length; k++) {
            due(what + ": zero " + k, x.zero(place, k), due[k]);
        }
        due(what + ": one too many", x.zero(place, due.length), -2);
        due(what + ": one before the first", x.zero(place, -1), -2);
        due(what + ": the greatest k", x.zero(place, Integer.MAX_VALUE), -2);
        due(what + ": the least k", x.zero(place, Integer.MIN_VALUE), -2);
    }
}
