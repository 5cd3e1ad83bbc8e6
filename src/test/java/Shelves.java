/** What the tests share: objects over a field, rows put on a shelf, and all that a call could change. */
final class Shelves {
    static final int BAD = -1, STATE = -2, FULL = -3, NONE = -9, NO = -1000000;
    static final int MAPS = 4;
    static final int[] SIZES = Model.SIZES;
    static final int[] PRIMES = {2, 3, 5, 7, 11, 13};
    static final int[] ODD = {3, 5, 7, 9, 11, 13};
    static final int[] EVEN = {2, 4, 8, 16};

    private Shelves() {
    }

    static ShuffleMaps of(int q) {
        ShuffleMaps m = new ShuffleMaps();
        m.field(q);
        return m;
    }

    /** A new object over as many numbers as the row has, with the row on shelf 0. */
    static ShuffleMaps with(int... row) {
        ShuffleMaps m = of(row.length);
        put(m, 0, row);
        return m;
    }

    static void put(ShuffleMaps m, int map, int... row) {
        for (int x = 0; x < row.length; x++) {
            m.set(map, x, row[x]);
        }
    }

    static int[] row(ShuffleMaps m, int map) {
        int[] row = new int[m.count(0)];
        for (int x = 0; x < row.length; x++) {
            row[x] = m.at(map, x);
        }
        return row;
    }

    static int[] same(int q) {
        int[] row = new int[q];
        for (int x = 0; x < q; x++) {
            row[x] = x;
        }
        return row;
    }

    static int[] constant(int q, int v) {
        int[] row = new int[q];
        java.util.Arrays.fill(row, v);
        return row;
    }

    /** Each goes to the next number, the last to 0. */
    static int[] round(int q) {
        int[] row = new int[q];
        for (int x = 0; x < q; x++) {
            row[x] = (x + 1) % q;
        }
        return row;
    }

    /** The row that stands at this place among all rows of q numbers; the first has zeros alone. */
    static int[] rowNumber(int q, int place) {
        int[] row = new int[q];
        int rest = place;
        for (int x = q - 1; x >= 0; x--) {
            row[x] = rest % q;
            rest /= q;
        }
        return row;
    }

    /** How many rows of q numbers there are. */
    static int allRows(int q) {
        int all = 1;
        for (int x = 0; x < q; x++) {
            all *= q;
        }
        return all;
    }

    static void dueRow(String what, ShuffleMaps m, int map, int... row) {
        for (int x = 0; x < row.length; x++) {
            Due.is(what + ", at(" + map + ", " + x + ")", m.at(map, x), row[x]);
        }
        Due.is(what + ", behind the row", m.at(map, row.length), BAD);
    }

    /** The field, the four rows and the trace. */
    static String state(ShuffleMaps m) {
        StringBuilder text = new StringBuilder("q " + m.count(0) + " p " + m.count(1) + " trace " + m.trace());
        for (int map = 0; map < MAPS; map++) {
            text.append(' ').append(java.util.Arrays.toString(row(m, map)));
        }
        return text.toString();
    }

    static String state(Model m) {
        StringBuilder text = new StringBuilder("q " + m.q + " p " + m.p + " trace " + m.trace);
        for (int map = 0; map < MAPS; map++) {
            text.append(' ').append(java.util.Arrays.toString(m.maps[map]));
        }
        return text.toString();
    }
}
