import java.util.Arrays;
import java.util.Set;
import java.util.TreeSet;

/** The sentences on maps: rows, polynomials, degrees, the shelves, and one behind the other. */
final class MapSentences {
    private static final int BAD = Shelves.BAD, NONE = Shelves.NONE;

    private MapSentences() {
    }

    static void all() {
        rows();
        polynomials();
        justOnePolynomial();
        degreeAndNone();
        shelves();
        eachToItself();
        set();
        at();
        coefficient();
        coefficientsBeyond();
        change();
        degree();
        chain();
    }

    private static void rows() {
        Due.by("Terms", "A MAP takes each number to one: a ROW of q numbers.");
        for (int q : Shelves.SIZES) {
            ShuffleMaps m = Shelves.of(q);
            Due.is("before the row, q " + q, m.at(0, -1), BAD);
            Due.is("set before the row, q " + q, m.set(0, -1, 0), BAD);
            Due.is("set behind the row, q " + q, m.set(0, q, 0), BAD);
            Shelves.put(m, 0, Shelves.constant(q, q - 1));
            Shelves.dueRow("each to the last", m, 0, Shelves.constant(q, q - 1));
            Due.is("none to q, q " + q, m.set(0, 0, q), BAD);
            Due.is("none to -1, q " + q, m.set(0, q - 1, -1), BAD);
        }
        ShuffleMaps m = Shelves.of(16);
        Shelves.put(m, 0, Shelves.constant(16, 15));
        m.field(2);
        Due.is("a row of 2 behind one of 16", m.at(0, 2), BAD);
    }

    /** Rows at which polynomials are tried: one value at either end, all but one, and mixed ones. */
    private static int[][] someRows(int q) {
        int[] first = Shelves.constant(q, 0);
        first[0] = 1;
        int[] last = Shelves.constant(q, 0);
        last[q - 1] = q - 1;
        int[] mixed = new int[q];
        for (int x = 0; x < q; x++) {
            mixed[x] = (x * x * x + 5 * x + 3) * (x + 2) / 3 % q;
        }
        int[] off = Shelves.same(q);
        off[0] = q - 1;
        return new int[][] {Shelves.constant(q, 0), Shelves.constant(q, q - 1), first, last, Shelves.round(q), mixed, off};
    }

    private static int[] coefficients(ShuffleMaps m, int map) {
        int[] c = new int[m.count(0)];
        for (int k = 0; k < c.length; k++) {
            c[k] = m.coefficient(map, k);
        }
        return c;
    }

    private static void polynomials() {
        Due.by("Terms", "POLYNOMIALS of degree q - 1 at most are MAPS: ITS COEFFICIENTS c(0) .. c(q - 1) are those by which "
            + "c(0) + c(1) x + .. is what it takes x to, for each x;");
        for (int q : Shelves.SIZES) {
            Model slow = new Model();
            slow.field(q);
            for (int[] row : someRows(q)) {
                int[] c = coefficients(Shelves.with(row), 0);
                for (int x = 0; x < q; x++) {
                    Due.is(Arrays.toString(row) + " by " + Arrays.toString(c) + " at " + x, slow.evaluate(c, x), row[x]);
                }
            }
        }
        int[] one = {1, 0, 0, 0, 0, 0, 6};
        Due.isText("1 at 0 alone is 1 - x^6 of 7",
            Arrays.toString(coefficients(Shelves.with(1, 0, 0, 0, 0, 0, 0), 0)), Arrays.toString(one));
    }

    private static void justOnePolynomial() {
        Due.by("Terms", "each MAP has just one such POLYNOMIAL;");
        for (int q : new int[] {2, 3, 4}) {
            Set<String> seen = new TreeSet<>();
            for (int place = 0; place < Shelves.allRows(q); place++) {
                int[] c = coefficients(Shelves.with(Shelves.rowNumber(q, place)), 0);
                seen.add(Arrays.toString(c));
                ShuffleMaps back = Shelves.with(Shelves.constant(q, 0));
                for (int k = 0; k < q; k++) {
                    back.change(0, k, c[k]);
                }
                Shelves.dueRow("q " + q + " by " + Arrays.toString(c), back, 0, Shelves.rowNumber(q, place));
            }
            Due.is("polynomials of all maps, q " + q, seen.size(), Shelves.allRows(q));
        }
    }

    private static void degreeAndNone() {
        Due.by("Terms", "DEGREE is the greatest k with c(k) not 0 (NONE of the MAP to 0).");
        for (int q : Shelves.SIZES) {
            Due.is("to 0, q " + q, Shelves.with(Shelves.constant(q, 0)).degree(0), NONE);
            Due.is("to 1, q " + q, Shelves.with(Shelves.constant(q, 1)).degree(0), 0);
            Due.is("to the last, q " + q, Shelves.with(Shelves.constant(q, q - 1)).degree(0), 0);
            Due.is("x, q " + q, Shelves.of(q).degree(0), 1);
            int[] one = Shelves.constant(q, 0);
            one[q - 1] = 1;
            Due.is("the greatest, q " + q, Shelves.with(one).degree(0), q - 1);
            ShuffleMaps m = Shelves.with(Shelves.constant(q, 0));
            for (int k = 0; k < q; k++) {
                m.change(0, k, 1);
                Due.is("up to c(" + k + "), q " + q, m.degree(0), k);
            }
            for (int k = q - 1; k >= 0; k--) {
                m.change(0, k, 0);
                Due.is("without c(" + k + "), q " + q, m.degree(0), k == 0 ? NONE : k - 1);
            }
        }
    }

    private static void shelves() {
        Due.by("Terms", "MAPS 0 .. 3 lie on shelves");
        ShuffleMaps m = new ShuffleMaps();
        for (int map = 0; map < 4; map++) {
            Shelves.put(m, map, Shelves.constant(5, map + 1));
        }
        for (int map = 0; map < 4; map++) {
            Shelves.dueRow("each on its own", m, map, Shelves.constant(5, map + 1));
        }
        for (int map : new int[] {-1, 4, Integer.MIN_VALUE, Integer.MAX_VALUE}) {
            Due.is("map " + map, m.at(map, 0), BAD);
            Due.is("set, map " + map, m.set(map, 0, 0), BAD);
        }
    }

    private static void eachToItself() {
        Due.by("Terms", "(each takes x to x at first, and as THE FIELD is told).");
        for (int map = 0; map < 4; map++) {
            Shelves.dueRow("at first", new ShuffleMaps(), map, Shelves.same(5));
        }
        for (int before : Shelves.SIZES) {
            for (int q : Shelves.SIZES) {
                ShuffleMaps m = Shelves.of(before);
                for (int map = 0; map < 4; map++) {
                    Shelves.put(m, map, Shelves.constant(before, before - 1));
                }
                m.field(q);
                for (int map = 0; map < 4; map++) {
                    Shelves.dueRow(q + " told behind " + before, m, map, Shelves.same(q));
                }
            }
        }
        ShuffleMaps m = Shelves.with(1, 1, 1, 1, 1);
        m.field(6);
        Shelves.dueRow("a field that is refused is not told", m, 0, Shelves.constant(5, 1));
    }

    private static void set() {
        Due.by("Promise 6", "A MAP takes x to v: what it took it to.");
        for (int q : Shelves.SIZES) {
            ShuffleMaps m = Shelves.of(q);
            Due.is("the first number, q " + q, m.set(0, 0, q - 1), 0);
            Due.is("the last number, q " + q, m.set(0, q - 1, 0), q - 1);
            Due.is("again, q " + q, m.set(0, 0, 0), q - 1);
            Due.is("the same again, q " + q, m.set(0, 0, 0), 0);
            Due.is("now, q " + q, m.at(0, 0), 0);
            Due.is("the last now, q " + q, m.at(0, q - 1), 0);
            Due.is("the last shelf, q " + q, m.set(3, q - 1, q - 1), q - 1);
        }
    }

    private static void at() {
        Due.by("Promise 7", "What a MAP takes x to.");
        for (int q : Shelves.SIZES) {
            for (int map = 0; map < 4; map++) {
                ShuffleMaps m = Shelves.of(q);
                Shelves.put(m, map, Shelves.round(q));
                Due.is("the first, q " + q, m.at(map, 0), 1);
                Due.is("the last, q " + q, m.at(map, q - 1), 0);
            }
        }
    }

    private static void coefficient() {
        Due.by("Promise 8", "c(k) of a MAP.");
        for (int q : Shelves.SIZES) {
            for (int k = 0; k < q; k++) {
                ShuffleMaps m = Shelves.with(Shelves.constant(q, 0));
                m.change(0, k, q - 1);
                for (int other = 0; other < q; other++) {
                    Due.is("c(" + other + ") of c(" + k + ") alone, q " + q,
                        m.coefficient(0, other), other == k ? q - 1 : 0);
                }
            }
            ShuffleMaps first = Shelves.of(q);
            first.set(0, 0, 1);
            Due.is("c(0) is what 0 is taken to, q " + q, first.coefficient(0, 0), 1);
        }
    }

    private static void coefficientsBeyond() {
        Due.by("Promise 8", "BAD: k 0 .. q - 1.");
        for (int q : Shelves.SIZES) {
            ShuffleMaps m = Shelves.of(q);
            Due.is("k 0, q " + q, m.coefficient(0, 0), 0);
            Due.is("k q - 1, q " + q, m.coefficient(0, q - 1), q == 2 ? 1 : 0);
            Due.is("k -1, q " + q, m.coefficient(0, -1), BAD);
            Due.is("k q, q " + q, m.coefficient(0, q), BAD);
        }
    }

    private static void change() {
        Due.by("Promise 9", "c(k) of a MAP becomes v, the others stay (what it takes numbers to follows): what it was.");
        for (int q : Shelves.SIZES) {
            Model slow = new Model();
            slow.field(q);
            for (int k = 0; k < q; k++) {
                int[] row = someRows(q)[5];
                int[] c = coefficients(Shelves.with(row), 0);
                ShuffleMaps m = Shelves.with(row);
                Due.is("what it was, q " + q + " k " + k, m.change(0, k, q - 1), c[k]);
                Due.is("the same again, q " + q + " k " + k, m.change(0, k, q - 1), q - 1);
                c[k] = q - 1;
                for (int x = 0; x < q; x++) {
                    Due.is("q " + q + " k " + k + " at " + x, m.at(0, x), slow.evaluate(c, x));
                }
                Due.isText("the others stay, q " + q, Arrays.toString(coefficients(m, 0)), Arrays.toString(c));
                Shelves.dueRow("another map", m, 1, Shelves.same(q));
            }
        }
        ShuffleMaps m = Shelves.with(0, 0, 0);
        Due.is("c(0) of the map to 0", m.change(0, 0, 2), 0);
        Shelves.dueRow("takes 0 along", m, 0, 2, 2, 2);
    }

    private static void degree() {
        Due.by("Promise 10", "DEGREE.");
        for (int q : Shelves.SIZES) {
            ShuffleMaps m = Shelves.of(q);
            m.make(3, 0, q - 1, 0, 0, 0);
            Due.is("x^(q - 1), q " + q, m.degree(3), q - 1);
            m.make(3, 0, q, 0, 0, 0);
            Due.is("x^q is x, q " + q, m.degree(3), 1);
            Shelves.put(m, 3, Shelves.constant(q, 0));
            Due.is("0, q " + q, m.degree(3), NONE);
        }
    }

    private static void chain() {
        Due.by("Promise 13", "A MAP becomes another one at what a third one takes x to (one behind the other): 1.");
        int[][] rows = {{1, 2, 3, 4, 0}, {0, 2, 4, 1, 3}, {4, 4, 0, 1, 1}, {3, 0, 3, 2, 0}};
        for (int map = 0; map < 4; map++) {
            for (int outer = 0; outer < 4; outer++) {
                for (int inner = 0; inner < 4; inner++) {
                    ShuffleMaps m = new ShuffleMaps();
                    int[][] due = new int[4][];
                    for (int i = 0; i < 4; i++) {
                        Shelves.put(m, i, rows[i]);
                        due[i] = rows[i];
                    }
                    due[map] = new int[5];
                    for (int x = 0; x < 5; x++) {
                        due[map][x] = rows[outer][rows[inner][x]];
                    }
                    String call = "chain(" + map + ", " + outer + ", " + inner + ")";
                    Due.is(call, m.chain(map, outer, inner), 1);
                    for (int i = 0; i < 4; i++) {
                        Shelves.dueRow(call, m, i, due[i]);
                    }
                }
            }
        }
    }
}
