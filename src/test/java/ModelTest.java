import java.util.Random;

/** Long runs of calls, right and wrong ones, always the same: each answer is compared with the slow model's. */
public final class ModelTest {
    private static final int RUNS = 1200;
    private static final int CALLS = 512;
    private static final int[] ODD = {Integer.MIN_VALUE, Integer.MAX_VALUE, -1, 6, 16, 17, 64, 65, 101, -101, 1001,
        -1001, 100001, -100001, 2000};

    private final Random random;
    /** The greatest coefficient that the run sets: small ones make joints, touches and zeros at knots often. */
    private final int reach;
    private final int pointReach;
    /** Points of some runs lie near a line or a parabola, so that splines of each shape are there. */
    private final int trend;
    private final int curve;
    private final SmoothPieces real = new SmoothPieces();
    private final SlowModel model = new SlowModel();
    private final StringBuilder told = new StringBuilder();

    private ModelTest(int run) {
        random = new Random(run);
        int[] reaches = {1, 2, 4, 10, 100, 1000, 30000, 100000};
        int[] pointReaches = {1, 3, 20, 200, 1000};
        reach = reaches[run % reaches.length];
        pointReach = pointReaches[run % pointReaches.length];
        trend = random.nextBoolean() ? 0 : random.nextInt(61) - 30;
        curve = random.nextBoolean() ? 0 : random.nextInt(7) - 3;
    }

    public static void main(String[] args) {
        for (int run = 0; run < RUNS && !Checks.anyWrong(); run++) {
            ModelTest test = new ModelTest(run);
            for (int call = 0; call < CALLS && !Checks.anyWrong(); call++) {
                test.call(run, test.random.nextInt(64));
            }
            if (Checks.anyWrong()) {
                System.out.println("run " + run + ", all calls: " + test.told);
            }
        }
        Checks.finish("ModelTest");
    }

    private int odd(int usual) {
        return random.nextInt(40) == 0 ? ODD[random.nextInt(ODD.length)] : usual;
    }

    private int place() {
        return odd(random.nextInt(3) == 0 ? random.nextInt(6) : random.nextInt(2));
    }

    private int upTo(int most) {
        return odd(random.nextInt(most + 1));
    }

    private int within(int bound) {
        return odd(random.nextInt(2 * bound + 1) - bound);
    }

    private void compare(int run, String name, long[] args, long got, long want) {
        StringBuilder call = new StringBuilder(name).append('(');
        for (int k = 0; k < args.length; k++) {
            call.append(k == 0 ? "" : ", ").append(args[k]);
        }
        told.append(call).append(") ");
        Checks.due("run " + run + ": " + call + ")", got, want);
    }

    private void call(int run, int kind) {
        int a = place();
        int b = place();
        if (kind < 2) {
            int n = odd(random.nextInt(3) == 0 ? 1 + random.nextInt(16) : 1 + random.nextInt(4));
            compare(run, "pieces", new long[] {a, n}, real.pieces(a, n), model.pieces(a, n));
        } else if (kind < 14) {
            pieceCall(run, a);
        } else if (kind < 16) {
            int i = upTo(4);
            int what = upTo(2);
            compare(run, "of", new long[] {a, i, what}, real.of(a, i, what), model.of(a, i, what));
        } else if (kind < 19) {
            int v = odd(1 + random.nextInt(64));
            int u = upTo(4 * Math.max(1, Math.min(64, v)));
            int part = upTo(1);
            compare(run, "value", new long[] {a, u, v, part}, real.value(a, u, v, part), model.value(a, u, v, part));
        } else if (kind < 34) {
            lookCall(run, kind, a, b);
        } else if (kind < 44) {
            madeCall(run, kind, a, b);
        } else {
            splineCall(run, kind, a);
        }
    }

    private void pieceCall(int run, int place) {
        int i = upTo(random.nextInt(3) == 0 ? 15 : 3);
        int a = within(reach);
        int b = within(reach);
        int c = random.nextInt(4) == 0 ? 0 : within(reach);
        int way = random.nextInt(8);
        if (way == 0) {
            // a root at t = 1, which only the last piece has
            a = -b - c;
        } else if (way == 1) {
            // touches 0 at t = k / d
            int d = 1 + random.nextInt(9);
            int k = random.nextInt(d + 1);
            a = k * k;
            b = -2 * k * d;
            c = d * d;
        } else if (way == 2) {
            // goes on from the piece before it
            int left = i - 1;
            if (left >= 0 && left < 16 && model.of(place, left, 0) != Integer.MIN_VALUE) {
                a = model.of(place, left, 0) + model.of(place, left, 1) + model.of(place, left, 2);
                b = random.nextBoolean() ? b : model.of(place, left, 1) + 2 * model.of(place, left, 2);
                c = random.nextBoolean() ? c : model.of(place, left, 2);
            }
        }
        compare(run, "piece", new long[] {place, i, a, b, c}, real.piece(place, i, a, b, c),
                model.piece(place, i, a, b, c));
    }

    private void lookCall(int run, int kind, int a, int b) {
        if (kind == 19) {
            int knot = upTo(4);
            compare(run, "join", new long[] {a, knot}, real.join(a, knot), model.join(a, knot));
        } else if (kind < 22) {
            int shape = odd(1 + random.nextInt(4));
            compare(run, "has", new long[] {a, shape}, real.has(a, shape), model.has(a, shape));
        } else if (kind < 24) {
            int way = upTo(1);
            compare(run, "end", new long[] {a, way}, real.end(a, way), model.end(a, way));
        } else if (kind < 26) {
            compare(run, "zeros", new long[] {a}, real.zeros(a), model.zeros(a));
        } else if (kind < 29) {
            int k = upTo(3);
            compare(run, "zero", new long[] {a, k}, real.zero(a, k), model.zero(a, k));
        } else if (kind < 31) {
            int i = upTo(3);
            int j = upTo(4);
            int part = upTo(1);
            compare(run, "area", new long[] {a, i, j, part}, real.area(a, i, j, part), model.area(a, i, j, part));
        } else if (kind == 31) {
            compare(run, "same", new long[] {a, b}, real.same(a, b), model.same(a, b));
        } else {
            compare(run, "meets", new long[] {a, b}, real.meets(a, b), model.meets(a, b));
        }
    }

    private void madeCall(int run, int kind, int a, int b) {
        if (kind < 37) {
            int two = random.nextBoolean() ? b : place();
            int p = within(random.nextInt(3) == 0 ? 100 : 2);
            int q = within(random.nextInt(3) == 0 ? 100 : 2);
            compare(run, "mix", new long[] {a, b, p, two, q}, real.mix(a, b, p, two, q), model.mix(a, b, p, two, q));
        } else if (kind < 39) {
            compare(run, "refine", new long[] {a, b}, real.refine(a, b), model.refine(a, b));
        } else if (kind < 41) {
            compare(run, "slope", new long[] {a, b}, real.slope(a, b), model.slope(a, b));
        } else {
            int v = within(reach);
            compare(run, "push", new long[] {a, v}, real.push(a, v), model.push(a, v));
        }
    }

    private void splineCall(int run, int kind, int a) {
        int shape = upTo(4);
        int s = within(random.nextInt(3) == 0 ? 1000 : 20);
        if (kind < 52) {
            int k = model.pointCount();
            int stray = within(trend == 0 && curve == 0 ? pointReach : 1 + pointReach / 200);
            int y = odd(stray + trend * k + curve * k * k);
            compare(run, "point", new long[] {y}, real.point(y), model.point(y));
        } else if (kind == 52) {
            compare(run, "clear", new long[0], real.clear(), model.clear());
        } else if (kind < 55) {
            int what = upTo(2);
            compare(run, "slopes", new long[] {shape, what}, real.slopes(shape, what), model.slopes(shape, what));
        } else if (kind < 57) {
            compare(run, "best", new long[] {shape}, real.best(shape), model.best(shape));
        } else if (kind < 59) {
            compare(run, "bend", new long[] {s}, real.bend(s), model.bend(s));
        } else if (kind < 62) {
            compare(run, "spline", new long[] {a, s}, real.spline(a, s), model.spline(a, s));
        } else {
            int what = upTo(2);
            compare(run, "count", new long[] {a, what}, real.count(a, what), model.count(a, what));
        }
    }
}
