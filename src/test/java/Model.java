/**
 * The document read as plainly and slowly as can be, to hold the class against:
 * nothing of the field is kept in tables, and all that can be searched is searched.
 */
final class Model {
    static final int BAD = -1, STATE = -2, FULL = -3, NONE = -9, NO = -1000000;
    static final int[] SIZES = {2, 3, 4, 5, 7, 8, 9, 11, 13, 16};

    int q;
    int p;
    int n;
    int[][] maps = new int[4][];
    long trace = 0;

    Model() {
        field(5);
    }

    int field(int size) {
        boolean known = false;
        for (int s : SIZES) {
            known |= s == size;
        }
        if (!known) {
            return BAD;
        }
        int before = q;
        q = size;
        p = 2;
        while (q % p != 0) {
            p++;
        }
        n = 0;
        for (int rest = q; rest > 1; rest /= p) {
            n++;
        }
        for (int m = 0; m < 4; m++) {
            maps[m] = new int[q];
            for (int x = 0; x < q; x++) {
                maps[m][x] = x;
            }
        }
        return before;
    }

    boolean in(int... numbers) {
        for (int a : numbers) {
            if (a < 0 || a >= q) {
                return false;
            }
        }
        return true;
    }

    static boolean shelf(int... shelves) {
        for (int m : shelves) {
            if (m < 0 || m > 3) {
                return false;
            }
        }
        return true;
    }

    int[] digits(int a, int length) {
        int[] d = new int[length];
        for (int i = 0; i < length; i++) {
            d[i] = a % p;
            a /= p;
        }
        return d;
    }

    int number(int[] d) {
        int a = 0;
        for (int i = n - 1; i >= 0; i--) {
            a = a * p + d[i];
        }
        return a;
    }

    int add(int a, int b) {
        int[] x = digits(a, n);
        int[] y = digits(b, n);
        for (int i = 0; i < n; i++) {
            x[i] = (x[i] + y[i]) % p;
        }
        return number(x);
    }

    int negative(int a) {
        for (int b = 0; b < q; b++) {
            if (add(a, b) == 0) {
                return b;
            }
        }
        throw new IllegalStateException();
    }

    /** The polynomial by which what is left is left, lowest first. */
    int[] modulus() {
        switch (q) {
            case 4:
                return new int[] {1, 1, 1};
            case 8:
                return new int[] {1, 1, 0, 1};
            case 9:
                return new int[] {1, 0, 1};
            case 16:
                return new int[] {1, 1, 0, 0, 1};
            default:
                throw new IllegalStateException();
        }
    }

    int multiply(int a, int b) {
        if (n == 1) {
            return a * b % q;
        }
        int[] x = digits(a, n);
        int[] y = digits(b, n);
        int[] z = new int[2 * n];
        for (int i = 0; i < n; i++) {
            for (int j = 0; j < n; j++) {
                z[i + j] = (z[i + j] + x[i] * y[j]) % p;
            }
        }
        int[] m = modulus();
        for (int top = 2 * n - 1; top >= n; top--) {
            int k = z[top];
            for (int i = 0; i <= n; i++) {
                z[top - n + i] = Math.floorMod(z[top - n + i] - k * m[i], p);
            }
        }
        return number(z);
    }

    int raise(int x, int e) {
        int value = 1;
        for (int i = 0; i < e; i++) {
            value = multiply(value, x);
        }
        return value;
    }

    int plus(int a, int b) {
        return in(a, b) ? add(a, b) : BAD;
    }

    int times(int a, int b) {
        return in(a, b) ? multiply(a, b) : BAD;
    }

    int over(int a) {
        if (!in(a)) {
            return BAD;
        }
        for (int b = 0; b < q; b++) {
            if (multiply(a, b) == 1) {
                return b;
            }
        }
        return STATE;
    }

    int set(int map, int x, int v) {
        if (!shelf(map) || !in(x, v)) {
            return BAD;
        }
        int before = maps[map][x];
        maps[map][x] = v;
        return before;
    }

    int at(int map, int x) {
        return shelf(map) && in(x) ? maps[map][x] : BAD;
    }

    /** The polynomial by the equations that its values are, solved row by row. */
    int[] coefficients(int[] f) {
        int[][] rows = new int[q][q + 1];
        for (int x = 0; x < q; x++) {
            for (int k = 0; k < q; k++) {
                rows[x][k] = raise(x, k);
            }
            rows[x][q] = f[x];
        }
        for (int k = 0; k < q; k++) {
            int r = k;
            while (rows[r][k] == 0) {
                r++;
            }
            int[] swap = rows[r];
            rows[r] = rows[k];
            rows[k] = swap;
            int inverse = over(rows[k][k]);
            for (int j = 0; j <= q; j++) {
                rows[k][j] = multiply(rows[k][j], inverse);
            }
            for (int other = 0; other < q; other++) {
                if (other != k) {
                    int factor = negative(rows[other][k]);
                    for (int j = 0; j <= q; j++) {
                        rows[other][j] = add(rows[other][j], multiply(factor, rows[k][j]));
                    }
                }
            }
        }
        int[] c = new int[q];
        for (int k = 0; k < q; k++) {
            c[k] = rows[k][q];
        }
        return c;
    }

    int evaluate(int[] c, int x) {
        int value = 0;
        for (int k = 0; k < c.length; k++) {
            value = add(value, multiply(c[k], raise(x, k)));
        }
        return value;
    }

    int coefficient(int map, int k) {
        return shelf(map) && in(k) ? coefficients(maps[map])[k] : BAD;
    }

    int change(int map, int k, int v) {
        if (!shelf(map) || !in(k, v)) {
            return BAD;
        }
        int[] c = coefficients(maps[map]);
        int before = c[k];
        c[k] = v;
        for (int x = 0; x < q; x++) {
            maps[map][x] = evaluate(c, x);
        }
        return before;
    }

    int degree(int map) {
        if (!shelf(map)) {
            return BAD;
        }
        int[] c = coefficients(maps[map]);
        int greatest = NONE;
        for (int k = 0; k < q; k++) {
            if (c[k] != 0) {
                greatest = k;
            }
        }
        return greatest;
    }

    boolean badRecipe(int kind, int e, int a, int b, int c) {
        return kind < 0 || kind > 2 || e < 1 || e > 255 || kind > 0 && !in(a, b, c);
    }

    int recipe(int kind, int e, int a, int b, int c, int x) {
        if (kind == 0) {
            trace += 1;
            return raise(x, e);
        }
        if (kind == 1) {
            trace += 10;
            return add(multiply(a, recipe(0, e, a, b, c, add(x, b))), c);
        }
        trace += 100;
        return recipe(1, e, a, b, c, recipe(1, e, a, b, c, x));
    }

    int make(int map, int kind, int e, int a, int b, int c) {
        if (!shelf(map) || badRecipe(kind, e, a, b, c)) {
            return BAD;
        }
        long before = trace;
        for (int x = 0; x < q; x++) {
            maps[map][x] = recipe(kind, e, a, b, c, x);
        }
        trace = before;
        return 1;
    }

    int taste(int kind, int e, int a, int b, int c, int x) {
        return badRecipe(kind, e, a, b, c) || !in(x) ? BAD : recipe(kind, e, a, b, c, x);
    }

    int chain(int map, int outer, int inner) {
        if (!shelf(map, outer, inner)) {
            return BAD;
        }
        int[] made = new int[q];
        for (int x = 0; x < q; x++) {
            made[x] = maps[outer][maps[inner][x]];
        }
        maps[map] = made;
        return 1;
    }

    boolean shuffling(int[] f) {
        for (int v = 0; v < q; v++) {
            if (taken(f, v) != 1) {
                return false;
            }
        }
        return true;
    }

    int taken(int[] f, int v) {
        int found = 0;
        for (int x = 0; x < q; x++) {
            if (f[x] == v) {
                found++;
            }
        }
        return found;
    }

    int shuffles(int map) {
        return !shelf(map) ? BAD : shuffling(maps[map]) ? 1 : 0;
    }

    int fails(int map) {
        if (!shelf(map)) {
            return BAD;
        }
        for (int t = 1; t <= q - 2; t++) {
            int[] power = new int[q];
            for (int x = 0; x < q; x++) {
                power[x] = raise(maps[map][x], t);
            }
            if (coefficients(power)[q - 1] != 0) {
                return t;
            }
        }
        return taken(maps[map], 0) == 1 ? 0 : q - 1;
    }

    int image(int map) {
        if (!shelf(map)) {
            return BAD;
        }
        int found = 0;
        for (int v = 0; v < q; v++) {
            found += taken(maps[map], v) > 0 ? 1 : 0;
        }
        return found;
    }

    int turn(int map) {
        if (!shelf(map)) {
            return BAD;
        }
        if (!shuffling(maps[map])) {
            return STATE;
        }
        int[] back = new int[q];
        for (int x = 0; x < q; x++) {
            back[maps[map][x]] = x;
        }
        maps[map] = back;
        return 1;
    }

    int order(int map) {
        if (!shelf(map)) {
            return BAD;
        }
        int[] f = maps[map];
        if (!shuffling(f)) {
            return STATE;
        }
        int[] done = f.clone();
        int rounds = 1;
        while (still(done) != q) {
            for (int x = 0; x < q; x++) {
                done[x] = f[done[x]];
            }
            rounds++;
        }
        return rounds;
    }

    int still(int[] f) {
        int found = 0;
        for (int x = 0; x < q; x++) {
            found += f[x] == x ? 1 : 0;
        }
        return found;
    }

    int fixed(int map) {
        return shelf(map) ? still(maps[map]) : BAD;
    }

    int difference(int map, int a, int v) {
        if (!shelf(map) || !in(a, v) || a == 0) {
            return BAD;
        }
        int found = 0;
        for (int x = 0; x < q; x++) {
            if (maps[map][add(x, a)] == add(v, maps[map][x])) {
                found++;
            }
        }
        return found;
    }

    int spread(int map) {
        if (!shelf(map)) {
            return BAD;
        }
        int greatest = 0;
        for (int a = 1; a < q; a++) {
            for (int v = 0; v < q; v++) {
                greatest = Math.max(greatest, difference(map, a, v));
            }
        }
        return greatest;
    }

    int planar(int map) {
        if (!shelf(map)) {
            return BAD;
        }
        for (int a = 1; a < q; a++) {
            for (int v = 0; v < q; v++) {
                if (difference(map, a, v) != 1) {
                    return 0;
                }
            }
        }
        return 1;
    }

    int walk(int map, int a, int b) {
        if (!shelf(map) || !in(a, b) || p != 2) {
            return NO;
        }
        int all = 0;
        for (int x = 0; x < q; x++) {
            int ones = Integer.bitCount(a & x) + Integer.bitCount(b & maps[map][x]);
            all += ones % 2 == 0 ? 1 : -1;
        }
        return all;
    }

    int linear(int map) {
        if (!shelf(map)) {
            return BAD;
        }
        if (p != 2) {
            return STATE;
        }
        int greatest = 0;
        for (int a = 0; a < q; a++) {
            for (int b = 1; b < q; b++) {
                greatest = Math.max(greatest, Math.abs(walk(map, a, b)));
            }
        }
        return greatest;
    }

    int[] dress(int[] f, int a, int b, int c, int d) {
        int[] g = new int[q];
        for (int x = 0; x < q; x++) {
            g[x] = add(multiply(a, f[add(multiply(b, x), c)]), d);
        }
        return g;
    }

    int like(int map, int other) {
        if (!shelf(map, other)) {
            return BAD;
        }
        for (int a = 1; a < q; a++) {
            for (int b = 1; b < q; b++) {
                for (int c = 0; c < q; c++) {
                    for (int d = 0; d < q; d++) {
                        if (java.util.Arrays.equals(dress(maps[map], a, b, c, d), maps[other])) {
                            return 1;
                        }
                    }
                }
            }
        }
        return 0;
    }

    int least(int map) {
        if (!shelf(map)) {
            return BAD;
        }
        int[] best = maps[map];
        for (int a = 1; a < q; a++) {
            for (int b = 1; b < q; b++) {
                for (int c = 0; c < q; c++) {
                    for (int d = 0; d < q; d++) {
                        int[] g = dress(maps[map], a, b, c, d);
                        if (java.util.Arrays.compare(g, best) < 0) {
                            best = g;
                        }
                    }
                }
            }
        }
        maps[map] = best;
        return 1;
    }

    int[] listed(int degree, int number) {
        int[] c = new int[degree + 1];
        for (int k = 1; k < degree; k++) {
            c[k] = number % q;
            number /= q;
        }
        c[degree] = 1;
        int[] f = new int[q];
        for (int x = 0; x < q; x++) {
            f[x] = evaluate(c, x);
        }
        return f;
    }

    int many(int degree) {
        if (degree < 1 || degree > 5) {
            return BAD;
        }
        double all = Math.pow(q, degree - 1);
        if (all > 5000) {
            return FULL;
        }
        int found = 0;
        for (int number = 0; number < all; number++) {
            found += shuffling(listed(degree, number)) ? 1 : 0;
        }
        return found;
    }

    int pick(int map, int degree, int i) {
        if (!shelf(map) || degree < 1 || degree > 5 || i < 0) {
            return BAD;
        }
        double all = Math.pow(q, degree - 1);
        if (all > 5000) {
            return FULL;
        }
        int found = 0;
        for (int number = 0; number < all; number++) {
            int[] f = listed(degree, number);
            if (shuffling(f)) {
                if (found == i) {
                    maps[map] = f;
                    return number;
                }
                found++;
            }
        }
        return BAD;
    }

    int count(int what) {
        int shuffling = 0;
        for (int[] f : maps) {
            shuffling += shuffling(f) ? 1 : 0;
        }
        return what == 0 ? q : what == 1 ? p : what == 2 ? shuffling : BAD;
    }
}
