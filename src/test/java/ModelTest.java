/**
 * Runs of mixed calls on the class and on the slow model, each answer held against the other. No object is asked more
 * often than the document says: what it answers later is free.
 */
final class ModelTest {
    private static final int MOST_CALLS = 512;
    private static final int LONG_RUNS = 14, CLOSE_RUNS = 80;
    /** All rows and the trace of 16 numbers. */
    private static final int MOST_ROWS = 4 * 16 + 1;
    /** A field and the sets behind it, then the rows, and those at the end. */
    private static final int DEAREST = 1 + 4 * 16 + 2 * MOST_ROWS;
    private static final String[] CALLS = {
        "field", "plus", "times", "over", "set", "at", "coefficient", "change", "degree", "make", "taste", "chain",
        "shuffles", "fails", "image", "turn", "order", "fixed", "difference", "spread", "planar", "walk", "linear",
        "like", "least", "many", "pick", "count", "trace"};

    private final ShuffleMaps real = new ShuffleMaps();
    private final Model model = new Model();
    private final StringBuilder done = new StringBuilder();
    private long seed;
    private int asked;

    private ModelTest(long seed) {
        this.seed = seed;
    }

    public static void main(String[] args) {
        for (int q : Model.SIZES) {
            tables(q);
            degrees(q);
            for (int run = 0; run < LONG_RUNS; run++) {
                new ModelTest(run * 100L + q).run(q, false);
            }
            for (int run = 0; run < CLOSE_RUNS; run++) {
                new ModelTest(run * 100L + q + 50).run(q, true);
            }
        }
        Due.end();
    }

    private static void tables(int q) {
        Model m = new Model();
        m.field(q);
        for (int a = -1; a <= q; a++) {
            ShuffleMaps x = Shelves.of(q);
            Due.is("q " + q + " over " + a, x.over(a), m.over(a));
            for (int b = -1; b <= q; b++) {
                Due.is("q " + q + " plus " + a + " " + b, x.plus(a, b), m.plus(a, b));
                Due.is("q " + q + " times " + a + " " + b, x.times(a, b), m.times(a, b));
            }
        }
    }

    /** All degrees, each picked polynomial and its row. */
    private static void degrees(int q) {
        for (int degree = -1; degree <= 7; degree++) {
            ShuffleMaps x = Shelves.of(q);
            Model m = new Model();
            m.field(q);
            int many = m.many(degree);
            Due.is("q " + q + " many " + degree, x.many(degree), many);
            // The model searches from the start for each, so the later ones are tried with gaps.
            for (int i = -1; i <= Math.max(many, 0) + 1; i += i < 4 || i >= many - 2 ? 1 : Math.max(1, many / 12)) {
                Due.is("q " + q + " pick " + degree + " " + i, x.pick(1, degree, i), m.pick(1, degree, i));
                for (int v = 0; v < q; v++) {
                    Due.is("q " + q + " pick " + degree + " " + i + " at " + v, x.at(1, v), m.at(1, v));
                }
            }
        }
    }

    private int any(int bound) {
        seed = seed * 6364136223846793005L + 1442695040888963407L;
        return (int) Math.floorMod(seed >>> 33, (long) bound);
    }

    /** Mostly within the bound, at times just outside it or far from it. */
    private int number(int bound) {
        int[] outside = {-1, bound, Integer.MIN_VALUE, Integer.MAX_VALUE, 16, 255};
        return any(40) == 0 ? outside[any(outside.length)] : any(bound);
    }

    private int exponent() {
        int[] edges = {0, 1, 255, 256, -1, 15, 16};
        return any(10) == 0 ? edges[any(edges.length)] : 1 + any(20);
    }

    /** Looks at all rows at the end, or, in a close run, behind each call. */
    private void run(int q, boolean close) {
        both("field", real.field(q), model.field(q), q);
        shake();
        while (asked + DEAREST <= MOST_CALLS) {
            String call = CALLS[any(CALLS.length)];
            // The slow ones and those that lose all maps come seldom.
            boolean seldom = "many pick like least field".contains(call) && any(model.q > 8 ? 20 : 4) != 0;
            if (!seldom) {
                one(call);
                if (close) {
                    rows();
                }
            }
        }
        rows();
        Due.isTrue("calls " + asked, asked <= MOST_CALLS);
    }

    /** Rows that shuffle by chance are rare: some are shuffled on purpose. */
    private void shake() {
        for (int i = 0; i < 2 * model.q; i++) {
            int x = any(model.q);
            int y = any(model.q);
            int v = model.at(2, x);
            int w = model.at(2, y);
            both("set", real.set(2, x, w), model.set(2, x, w), 2, x, w);
            both("set", real.set(2, y, v), model.set(2, y, v), 2, y, v);
        }
    }

    private void rows() {
        for (int map = 0; map < 4; map++) {
            for (int x = 0; x < model.q; x++) {
                Due.is(done + " row", real.at(map, x), model.at(map, x));
            }
        }
        Due.is(done + " trace", real.trace(), model.trace);
        asked += 4 * model.q + 1;
    }

    private void both(String call, long got, long want, int... with) {
        asked++;
        done.setLength(0);
        done.append("q ").append(model.q).append(' ').append(call).append(java.util.Arrays.toString(with));
        Due.is(done.toString(), got, want);
    }

    private void one(String call) {
        int q = model.q;
        int map = number(4);
        int a = number(q);
        int b = number(q);
        int c = number(q);
        int x = number(q);
        int kind = number(3);
        int e = exponent();
        int degree = number(6);
        int i = number(6);
        int size = any(4) == 0 ? number(20) : Model.SIZES[any(Model.SIZES.length)];
        switch (call) {
            case "field": both(call, real.field(size), model.field(size), size); shake(); break;
            case "plus": both(call, real.plus(a, b), model.plus(a, b), a, b); break;
            case "times": both(call, real.times(a, b), model.times(a, b), a, b); break;
            case "over": both(call, real.over(a), model.over(a), a); break;
            case "set": both(call, real.set(map, a, b), model.set(map, a, b), map, a, b); break;
            case "at": both(call, real.at(map, a), model.at(map, a), map, a); break;
            case "coefficient": both(call, real.coefficient(map, a), model.coefficient(map, a), map, a); break;
            case "change": both(call, real.change(map, a, b), model.change(map, a, b), map, a, b); break;
            case "degree": both(call, real.degree(map), model.degree(map), map); break;
            case "make":
                both(call, real.make(map, kind, e, a, b, c), model.make(map, kind, e, a, b, c), map, kind, e, a, b, c);
                break;
            case "taste":
                both(call, real.taste(kind, e, a, b, c, x), model.taste(kind, e, a, b, c, x), kind, e, a, b, c, x);
                break;
            case "chain":
                int outer = number(4);
                int inner = number(4);
                both(call, real.chain(map, outer, inner), model.chain(map, outer, inner), map, outer, inner);
                break;
            case "shuffles": both(call, real.shuffles(map), model.shuffles(map), map); break;
            case "fails": both(call, real.fails(map), model.fails(map), map); break;
            case "image": both(call, real.image(map), model.image(map), map); break;
            case "turn": both(call, real.turn(map), model.turn(map), map); break;
            case "order": both(call, real.order(map), model.order(map), map); break;
            case "fixed": both(call, real.fixed(map), model.fixed(map), map); break;
            case "difference": both(call, real.difference(map, a, b), model.difference(map, a, b), map, a, b); break;
            case "spread": both(call, real.spread(map), model.spread(map), map); break;
            case "planar": both(call, real.planar(map), model.planar(map), map); break;
            case "walk": both(call, real.walk(map, a, b), model.walk(map, a, b), map, a, b); break;
            case "linear": both(call, real.linear(map), model.linear(map), map); break;
            case "like":
                int other = number(4);
                both(call, real.like(map, other), model.like(map, other), map, other);
                break;
            case "least": both(call, real.least(map), model.least(map), map); break;
            case "many": both(call, real.many(degree), model.many(degree), degree); break;
            case "pick": both(call, real.pick(map, degree, i), model.pick(map, degree, i), map, degree, i); break;
            case "count": both(call, real.count(i), model.count(i), i); break;
            default: both(call, real.trace(), model.trace); break;
        }
    }
}
