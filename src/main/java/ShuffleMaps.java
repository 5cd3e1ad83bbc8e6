import java.util.Arrays;

/**
 * Four maps of the numbers of a small field, as rows of values and as polynomials:
 * which of them shuffle, how unlike their differences are, which are like one another,
 * and all polynomials of a degree that shuffle.
 */
public final class ShuffleMaps {
    public static final int BAD = -1, STATE = -2, FULL = -3, NONE = -9;
    public static final int NO = -1000000;

    private static final int FIRST_Q = 5;
    private static final int GREATEST_Q = 16;
    private static final int MAPS = 4;
    private static final int GREATEST_EXPONENT = 255;
    private static final int GREATEST_DEGREE = 5;
    private static final int MOST_POLYNOMIALS = 5000;
    private static final int POWER = 0, DRESSED = 1, TWICE = 2;

    // Fields are kept once they are made, so that going back and forth makes nothing new.
    private final Field[] fields = new Field[GREATEST_Q + 1];
    private final int[][] maps = new int[MAPS][GREATEST_Q];
    private final int[] spare = new int[GREATEST_Q];
    private final int[] tally = new int[GREATEST_Q];
    private final Recipe recipe = new Recipe();
    private Field here;
    private int q;
    private long asked;

    public ShuffleMaps() {
        enter(FIRST_Q);
    }

    // ---- the field

    public int field(int q) {
        if (!isFieldSize(q)) {
            return BAD;
        }
        int before = this.q;
        enter(q);
        return before;
    }

    public int plus(int a, int b) {
        if (!isNumber(a) || !isNumber(b)) {
            return BAD;
        }
        return here.sum(a, b);
    }

    public int times(int a, int b) {
        if (!isNumber(a) || !isNumber(b)) {
            return BAD;
        }
        return here.product(a, b);
    }

    public int over(int a) {
        if (!isNumber(a)) {
            return BAD;
        }
        if (a == 0) {
            return STATE;
        }
        return here.inverse(a);
    }

    // ---- maps

    public int set(int map, int x, int v) {
        if (!isMap(map) || !isNumber(x) || !isNumber(v)) {
            return BAD;
        }
        int before = maps[map][x];
        maps[map][x] = v;
        return before;
    }

    public int at(int map, int x) {
        if (!isMap(map) || !isNumber(x)) {
            return BAD;
        }
        return maps[map][x];
    }

    public int coefficient(int map, int k) {
        if (!isMap(map) || !isNumber(k)) {
            return BAD;
        }
        return coefficientOf(maps[map], k);
    }

    public int change(int map, int k, int v) {
        if (!isMap(map) || !isNumber(k) || !isNumber(v)) {
            return BAD;
        }
        int[] f = maps[map];
        int before = coefficientOf(f, k);
        int step = here.less(v, before);
        for (int x = 0; x < q; x++) {
            f[x] = here.sum(f[x], here.product(step, here.raised(x, k)));
        }
        return before;
    }

    public int degree(int map) {
        if (!isMap(map)) {
            return BAD;
        }
        for (int k = q - 1; k >= 0; k--) {
            if (coefficientOf(maps[map], k) != 0) {
                return k;
            }
        }
        return NONE;
    }

    public int make(int map, int kind, int e, int a, int b, int c) {
        if (!isMap(map) || !isRecipe(kind, e, a, b, c)) {
            return BAD;
        }
        recipe.write(e, a, b, c);
        for (int x = 0; x < q; x++) {
            maps[map][x] = recipe.takes(here, kind, x);
        }
        return 1;
    }

    public int taste(int kind, int e, int a, int b, int c, int x) {
        if (!isRecipe(kind, e, a, b, c) || !isNumber(x)) {
            return BAD;
        }
        recipe.write(e, a, b, c);
        int value = recipe.takes(here, kind, x);
        asked += recipe.asked;
        return value;
    }

    public int chain(int map, int outer, int inner) {
        if (!isMap(map) || !isMap(outer) || !isMap(inner)) {
            return BAD;
        }
        for (int x = 0; x < q; x++) {
            spare[x] = maps[outer][maps[inner][x]];
        }
        putSpare(map);
        return 1;
    }

    // ---- shuffling

    public int shuffles(int map) {
        if (!isMap(map)) {
            return BAD;
        }
        return truth(isShuffle(maps[map]));
    }

    public int fails(int map) {
        if (!isMap(map)) {
            return BAD;
        }
        int[] f = maps[map];
        Arrays.fill(spare, 1);
        for (int t = 1; t <= q - 2; t++) {
            for (int x = 0; x < q; x++) {
                spare[x] = here.product(spare[x], f[x]);
            }
            if (coefficientOf(spare, q - 1) != 0) {
                return t;
            }
        }
        return timesTaken(f, 0) == 1 ? 0 : q - 1;
    }

    public int image(int map) {
        if (!isMap(map)) {
            return BAD;
        }
        return imageSize(maps[map]);
    }

    public int turn(int map) {
        if (!isMap(map)) {
            return BAD;
        }
        if (!isShuffle(maps[map])) {
            return STATE;
        }
        for (int x = 0; x < q; x++) {
            spare[maps[map][x]] = x;
        }
        putSpare(map);
        return 1;
    }

    public int order(int map) {
        if (!isMap(map)) {
            return BAD;
        }
        if (!isShuffle(maps[map])) {
            return STATE;
        }
        int all = 1;
        for (int x = 0; x < q; x++) {
            all = leastCommonMultiple(all, roundOf(maps[map], x));
        }
        return all;
    }

    public int fixed(int map) {
        if (!isMap(map)) {
            return BAD;
        }
        int found = 0;
        for (int x = 0; x < q; x++) {
            found += truth(maps[map][x] == x);
        }
        return found;
    }

    // ---- differences, walks, dress

    public int difference(int map, int a, int v) {
        if (!isMap(map) || !isNumber(a) || a == 0 || !isNumber(v)) {
            return BAD;
        }
        int found = 0;
        for (int x = 0; x < q; x++) {
            found += truth(differenceAt(maps[map], a, x) == v);
        }
        return found;
    }

    public int spread(int map) {
        if (!isMap(map)) {
            return BAD;
        }
        return greatestSpread(maps[map]);
    }

    public int planar(int map) {
        if (!isMap(map)) {
            return BAD;
        }
        return truth(greatestSpread(maps[map]) == 1);
    }

    public int walk(int map, int a, int b) {
        if (!isMap(map) || !isNumber(a) || !isNumber(b) || !hasBits()) {
            return NO;
        }
        return walkOf(maps[map], a, b);
    }

    public int linear(int map) {
        if (!isMap(map)) {
            return BAD;
        }
        if (!hasBits()) {
            return STATE;
        }
        int greatest = 0;
        for (int b = 1; b < q; b++) {
            for (int a = 0; a < q; a++) {
                greatest = Math.max(greatest, Math.abs(walkOf(maps[map], a, b)));
            }
        }
        return greatest;
    }

    public int like(int map, int other) {
        if (!isMap(map) || !isMap(other)) {
            return BAD;
        }
        for (int a = 1; a < q; a++) {
            for (int b = 1; b < q; b++) {
                for (int c = 0; c < q; c++) {
                    if (isDress(maps[map], maps[other], a, b, c)) {
                        return 1;
                    }
                }
            }
        }
        return 0;
    }

    public int least(int map) {
        if (!isMap(map)) {
            return BAD;
        }
        Arrays.fill(spare, q);
        for (int a = 1; a < q; a++) {
            for (int b = 1; b < q; b++) {
                for (int c = 0; c < q; c++) {
                    keepIfLess(maps[map], a, b, c);
                }
            }
        }
        putSpare(map);
        return 1;
    }

    // ---- all of a degree

    public int many(int degree) {
        if (!isListDegree(degree)) {
            return BAD;
        }
        if (here.polynomials(degree) > MOST_POLYNOMIALS) {
            return FULL;
        }
        return here.listing(degree).size;
    }

    public int pick(int map, int degree, int i) {
        if (!isMap(map) || !isListDegree(degree) || i < 0) {
            return BAD;
        }
        if (here.polynomials(degree) > MOST_POLYNOMIALS) {
            return FULL;
        }
        Listing listing = here.listing(degree);
        if (i >= listing.size) {
            return BAD;
        }
        int number = listing.numbers[i];
        here.writePolynomial(degree, number);
        for (int x = 0; x < q; x++) {
            maps[map][x] = here.polynomialAt(degree, x);
        }
        return number;
    }

    public int count(int what) {
        switch (what) {
            case 0:
                return q;
            case 1:
                return here.p;
            case 2:
                return shufflingMaps();
            default:
                return BAD;
        }
    }

    public long trace() {
        return asked;
    }

    // ---- what the calls look at

    private static boolean isFieldSize(int size) {
        switch (size) {
            case 2: case 3: case 4: case 5: case 7: case 8: case 9: case 11: case 13: case 16:
                return true;
            default:
                return false;
        }
    }

    private static boolean isMap(int map) {
        return map >= 0 && map < MAPS;
    }

    private static boolean isListDegree(int degree) {
        return degree >= 1 && degree <= GREATEST_DEGREE;
    }

    private boolean isNumber(int a) {
        return a >= 0 && a < q;
    }

    private boolean isRecipe(int kind, int e, int a, int b, int c) {
        if (kind < POWER || kind > TWICE || e < 1 || e > GREATEST_EXPONENT) {
            return false;
        }
        return kind == POWER || (isNumber(a) && isNumber(b) && isNumber(c));
    }

    private boolean hasBits() {
        return here.p == 2;
    }

    private static int truth(boolean is) {
        return is ? 1 : 0;
    }

    // ---- the shelves

    private void enter(int size) {
        if (fields[size] == null) {
            fields[size] = new Field(size);
        }
        here = fields[size];
        q = size;
        for (int map = 0; map < MAPS; map++) {
            for (int x = 0; x < q; x++) {
                maps[map][x] = x;
            }
        }
    }

    private void putSpare(int map) {
        System.arraycopy(spare, 0, maps[map], 0, q);
    }

    private int shufflingMaps() {
        int found = 0;
        for (int map = 0; map < MAPS; map++) {
            found += truth(isShuffle(maps[map]));
        }
        return found;
    }

    // ---- rows of values

    // c(k) is what f(y) (1 - (x - y)^(q - 1)), summed over y, has at x^k.
    private int coefficientOf(int[] f, int k) {
        if (k == 0) {
            return f[0];
        }
        int all = 0;
        for (int y = 0; y < q; y++) {
            all = here.sum(all, here.product(f[y], here.raised(y, q - 1 - k)));
        }
        return here.less(0, all);
    }

    private int imageSize(int[] f) {
        int seen = 0;
        for (int x = 0; x < q; x++) {
            seen |= 1 << f[x];
        }
        return Integer.bitCount(seen);
    }

    private boolean isShuffle(int[] f) {
        return imageSize(f) == q;
    }

    private int timesTaken(int[] f, int v) {
        int found = 0;
        for (int x = 0; x < q; x++) {
            found += truth(f[x] == v);
        }
        return found;
    }

    private int roundOf(int[] f, int x) {
        int y = f[x];
        int length = 1;
        while (y != x && length < q) {
            y = f[y];
            length++;
        }
        return length;
    }

    private static int leastCommonMultiple(int m, int n) {
        int multiple = m;
        for (int k = 1; k < n && multiple % n != 0; k++) {
            multiple += m;
        }
        return multiple;
    }

    private int differenceAt(int[] f, int a, int x) {
        return here.less(f[here.sum(x, a)], f[x]);
    }

    private int greatestSpread(int[] f) {
        int greatest = 0;
        for (int a = 1; a < q; a++) {
            Arrays.fill(tally, 0);
            for (int x = 0; x < q; x++) {
                int v = differenceAt(f, a, x);
                tally[v]++;
                greatest = Math.max(greatest, tally[v]);
            }
        }
        return greatest;
    }

    private int walkOf(int[] f, int a, int b) {
        int all = 0;
        for (int x = 0; x < q; x++) {
            // A one that both have falls away, which leaves even or odd as it was.
            int ones = Integer.bitCount((a & x) ^ (b & f[x]));
            all += (ones & 1) == 0 ? 1 : -1;
        }
        return all;
    }

    // a f(b x + c): the d that is added to it follows from one value, so it is never searched.
    private int dressedAt(int[] f, int a, int b, int c, int x) {
        return here.product(a, f[here.sum(here.product(b, x), c)]);
    }

    private boolean isDress(int[] f, int[] g, int a, int b, int c) {
        int d = here.less(g[0], dressedAt(f, a, b, c, 0));
        for (int x = 1; x < q; x++) {
            if (here.sum(dressedAt(f, a, b, c, x), d) != g[x]) {
                return false;
            }
        }
        return true;
    }

    // The least row begins with 0, since some d makes it so: only that d is tried.
    private void keepIfLess(int[] f, int a, int b, int c) {
        int d = here.less(0, dressedAt(f, a, b, c, 0));
        boolean less = false;
        for (int x = 0; x < q; x++) {
            int v = here.sum(dressedAt(f, a, b, c, x), d);
            if (!less && v > spare[x]) {
                return;
            }
            less = less || v < spare[x];
            spare[x] = v;
        }
    }

    /** The field of q numbers by its tables, and the polynomials over it that shuffle. */
    private static final class Field {
        final int p;
        private final int q;
        private final int[] sums;
        private final int[] products;
        private final int[] powers;
        private final int[] negatives;
        private final int[] inverses;
        private final int[] coefficients = new int[GREATEST_DEGREE + 1];
        private final Listing[] listings = new Listing[GREATEST_DEGREE + 1];

        Field(int q) {
            this.q = q;
            p = primeOf(q);
            sums = new int[q * q];
            products = new int[q * q];
            powers = new int[q * q];
            negatives = new int[q];
            inverses = new int[q];
            fillSums();
            fillProducts();
            fillPowers();
        }

        int sum(int a, int b) {
            return sums[a * q + b];
        }

        int less(int a, int b) {
            return sums[a * q + negatives[b]];
        }

        int product(int a, int b) {
            return products[a * q + b];
        }

        int inverse(int a) {
            return inverses[a];
        }

        // Behind x^(q - 1) the powers come again, but x^0 of 0 does not.
        int raised(int x, int e) {
            return powers[x * q + (e < q ? e : 1 + (e - 1) % (q - 1))];
        }

        private static int primeOf(int q) {
            switch (q) {
                case 4: case 8: case 16:
                    return 2;
                case 9:
                    return 3;
                default:
                    return q;
            }
        }

        private void fillSums() {
            for (int a = 0; a < q; a++) {
                for (int b = 0; b < q; b++) {
                    int all = digitwise(a, b);
                    sums[a * q + b] = all;
                    if (all == 0) {
                        negatives[a] = b;
                    }
                }
            }
        }

        private int digitwise(int a, int b) {
            int all = 0;
            for (int place = 1; place < q; place *= p) {
                all += (a / place + b / place) % p * place;
            }
            return all;
        }

        private void fillProducts() {
            for (int a = 0; a < q; a++) {
                for (int b = 0; b < q; b++) {
                    int all = p == q ? a * b % q : polynomialProduct(a, b);
                    products[a * q + b] = all;
                    if (all == 1) {
                        inverses[a] = b;
                    }
                }
            }
        }

        private int polynomialProduct(int a, int b) {
            int all = 0;
            for (int place = q / p; place > 0; place /= p) {
                all = sum(timesZ(all), repeated(a, b / place % p));
            }
            return all;
        }

        private int timesZ(int a) {
            int top = q / p;
            // z^n is z + 1 in the fields of 4, 8 and 16 numbers, and -1 in that of 9.
            int highest = p == 2 ? 3 : 2;
            return sum(a % top * p, repeated(highest, a / top));
        }

        private int repeated(int a, int n) {
            int all = 0;
            for (int i = 0; i < n; i++) {
                all = sums[all * q + a];
            }
            return all;
        }

        private void fillPowers() {
            for (int x = 0; x < q; x++) {
                int value = 1;
                for (int e = 0; e < q; e++) {
                    powers[x * q + e] = value;
                    value = product(value, x);
                }
            }
        }

        int polynomials(int degree) {
            int all = 1;
            for (int k = 1; k < degree; k++) {
                all *= q;
            }
            return all;
        }

        Listing listing(int degree) {
            if (listings[degree] == null) {
                listings[degree] = listed(degree);
            }
            return listings[degree];
        }

        private Listing listed(int degree) {
            Listing found = new Listing();
            int all = polynomials(degree);
            for (int number = 0; number < all; number++) {
                writePolynomial(degree, number);
                if (polynomialShuffles(degree)) {
                    found.append(number);
                }
            }
            return found;
        }

        void writePolynomial(int degree, int number) {
            int rest = number;
            for (int k = 1; k < degree; k++) {
                coefficients[k] = rest % q;
                rest /= q;
            }
            coefficients[degree] = 1;
        }

        int polynomialAt(int degree, int x) {
            int value = 0;
            for (int k = degree; k > 0; k--) {
                value = product(sum(value, coefficients[k]), x);
            }
            return value;
        }

        private boolean polynomialShuffles(int degree) {
            int seen = 0;
            for (int x = 0; x < q; x++) {
                int value = 1 << polynomialAt(degree, x);
                if ((seen & value) != 0) {
                    return false;
                }
                seen |= value;
            }
            return true;
        }
    }

    /** The numbers of the polynomials of one degree that shuffle, in order. */
    private static final class Listing {
        private static final int FIRST_ROOM = 8;

        int[] numbers = new int[FIRST_ROOM];
        int size;

        void append(int number) {
            if (size == numbers.length) {
                numbers = Arrays.copyOf(numbers, 2 * size);
            }
            numbers[size] = number;
            size++;
        }
    }

    /** A recipe's numbers, what its kinds do with them, and how dear what was asked of it is. */
    private static final class Recipe {
        private static final int POWER_ASKED = 1, DRESSED_ASKED = 10, TWICE_ASKED = 100;

        private int e;
        private int a;
        private int b;
        private int c;
        int asked;

        void write(int e, int a, int b, int c) {
            this.e = e;
            this.a = a;
            this.b = b;
            this.c = c;
            asked = 0;
        }

        int takes(Field field, int kind, int x) {
            switch (kind) {
                case POWER:
                    return power(field, x);
                case DRESSED:
                    return dressed(field, x);
                default:
                    return twice(field, x);
            }
        }

        private int power(Field field, int x) {
            asked += POWER_ASKED;
            return field.raised(x, e);
        }

        private int dressed(Field field, int x) {
            asked += DRESSED_ASKED;
            return field.sum(field.product(a, power(field, field.sum(x, b))), c);
        }

        private int twice(Field field, int x) {
            asked += TWICE_ASKED;
            return dressed(field, dressed(field, x));
        }
    }
}
