/** The sentences on the field: which sizes there are, its numbers, and where sums and products wrap around. */
final class FieldSentences {
    private static final int BAD = Shelves.BAD, STATE = Shelves.STATE;

    private FieldSentences() {
    }

    static void all() {
        sizes();
        fiveAtFirst();
        numbers();
        primes();
        digits();
        remainders();
        newObject();
        whatQWas();
        sums();
        products();
        over();
        overZero();
        counts();
    }

    private static boolean isSize(int q) {
        for (int size : Shelves.SIZES) {
            if (size == q) {
                return true;
            }
        }
        return false;
    }

    private static void size(int q) {
        ShuffleMaps m = new ShuffleMaps();
        Due.is("field(" + q + ")", m.field(q), isSize(q) ? 5 : BAD);
        Due.is("q after field(" + q + ")", m.count(0), isSize(q) ? q : 5);
    }

    private static void sizes() {
        Due.by("What it is", "THE FIELD has q numbers, q 2, 3, 4, 5, 7, 8, 9, 11, 13 or 16");
        for (int q = -20; q <= 40; q++) {
            size(q);
        }
        // Sizes of fields that are too great, and numbers whose low bits are a size.
        for (int q : new int[] {49, 64, 81, 256, 258, 65541, Integer.MIN_VALUE, Integer.MIN_VALUE + 5, Integer.MAX_VALUE}) {
            size(q);
        }
    }

    private static void fiveAtFirst() {
        Due.by("What it is", "(5 at first)");
        ShuffleMaps m = new ShuffleMaps();
        Due.is("q", m.count(0), 5);
        Due.is("4 + 1", m.plus(4, 1), 0);
        Due.is("4 is the last number", m.plus(4, 0), 4);
        Due.is("5 is none", m.plus(5, 0), BAD);
    }

    private static void numbers() {
        Due.by("What it is", "0 .. q - 1.");
        for (int q : Shelves.SIZES) {
            ShuffleMaps m = Shelves.of(q);
            Due.is("0 and the last, q " + q, m.plus(0, q - 1), q - 1);
            Due.is("the last and 0, q " + q, m.plus(q - 1, 0), q - 1);
            Due.is("1 by the last, q " + q, m.times(1, q - 1), q - 1);
            Due.is("the last by 0, q " + q, m.times(q - 1, 0), 0);
            Due.isTrue("over the last, q " + q, m.over(q - 1) > 0);
            for (int none : new int[] {-1, q}) {
                Due.is(none + " + 0, q " + q, m.plus(none, 0), BAD);
                Due.is("0 + " + none + ", q " + q, m.plus(0, none), BAD);
                Due.is(none + " by 0, q " + q, m.times(none, 0), BAD);
                Due.is("0 by " + none + ", q " + q, m.times(0, none), BAD);
                Due.is("over " + none + ", q " + q, m.over(none), BAD);
            }
        }
    }

    private static void primes() {
        Due.by("Terms", "Where q is a prime they are added and multiplied as whole numbers, the rest by q left.");
        for (int q : Shelves.PRIMES) {
            ShuffleMaps m = Shelves.of(q);
            Due.is("just below q, q " + q, m.plus(q - 2, 1), q - 1);
            Due.is("just q, q " + q, m.plus(q - 1, 1), 0);
            Due.is("the greatest sum, q " + q, m.plus(q - 1, q - 1), q - 2);
            Due.is("the greatest product, q " + q, m.times(q - 1, q - 1), 1);
        }
        Due.is("2 2 of 5 is below 5", Shelves.of(5).times(2, 2), 4);
        Due.is("2 4 of 7 is just above 7", Shelves.of(7).times(2, 4), 1);
        Due.is("3 4 of 11 is just above 11", Shelves.of(11).times(3, 4), 1);
        Due.is("3 4 of 13 is just below 13", Shelves.of(13).times(3, 4), 12);
        Due.is("2 7 of 13 is just above 13", Shelves.of(13).times(2, 7), 1);
    }

    private static void digits() {
        Due.by("Terms", "Else q is p^n: a number's digits by p are coefficients (that of z^0 the lowest); "
            + "added digit by digit, rests by p;");
        Due.is("1 + 1 of 4, nothing carried", Shelves.of(4).plus(1, 1), 0);
        Due.is("3 + 1 of 4", Shelves.of(4).plus(3, 1), 2);
        Due.is("2 + 1 of 4", Shelves.of(4).plus(2, 1), 3);
        Due.is("1 + 1 of 8, nothing carried", Shelves.of(8).plus(1, 1), 0);
        Due.is("4 + 4 of 8, the highest digit", Shelves.of(8).plus(4, 4), 0);
        Due.is("7 + 1 of 8", Shelves.of(8).plus(7, 1), 6);
        Due.is("2 + 1 of 9, nothing carried", Shelves.of(9).plus(2, 1), 0);
        Due.is("1 + 1 of 9, below p", Shelves.of(9).plus(1, 1), 2);
        Due.is("6 + 3 of 9, the highest digit", Shelves.of(9).plus(6, 3), 0);
        Due.is("6 + 2 of 9, each its own digit", Shelves.of(9).plus(6, 2), 8);
        Due.is("8 + 8 of 9, both digits", Shelves.of(9).plus(8, 8), 4);
        Due.is("1 + 1 of 16, nothing carried", Shelves.of(16).plus(1, 1), 0);
        Due.is("8 + 8 of 16, the highest digit", Shelves.of(16).plus(8, 8), 0);
        Due.is("15 + 15 of 16", Shelves.of(16).plus(15, 15), 0);
        Due.is("15 + 1 of 16", Shelves.of(16).plus(15, 1), 14);
    }

    private static void remainders() {
        Due.by("Terms", "multiplied as polynomials, what is left by "
            + "z z + z + 1 (4), z z z + z + 1 (8), z z + 1 (9), z z z z + z + 1 (16).");
        Due.is("z z of 4", Shelves.of(4).times(2, 2), 3);
        Due.is("(z + 1) (z + 1) of 4", Shelves.of(4).times(3, 3), 2);
        Due.is("z z of 8, nothing left by", Shelves.of(8).times(2, 2), 4);
        Due.is("z zz of 8", Shelves.of(8).times(2, 4), 3);
        Due.is("zz zz of 8", Shelves.of(8).times(4, 4), 6);
        Due.is("1 + 1 by 1 + 1 of 9", Shelves.of(9).times(2, 2), 1);
        Due.is("2 z of 9, nothing left by", Shelves.of(9).times(2, 3), 6);
        Due.is("z z of 9", Shelves.of(9).times(3, 3), 2);
        Due.is("2z 2z of 9", Shelves.of(9).times(6, 6), 2);
        Due.is("2z z of 9", Shelves.of(9).times(6, 3), 1);
        Due.is("z zz of 16, nothing left by", Shelves.of(16).times(2, 4), 8);
        Due.is("z zzz of 16", Shelves.of(16).times(2, 8), 3);
        Due.is("zz zzz of 16", Shelves.of(16).times(4, 8), 6);
        Due.is("zzz zzz of 16", Shelves.of(16).times(8, 8), 12);
    }

    private static void newObject() {
        Due.by("Promise 1", "q is 5.");
        ShuffleMaps m = new ShuffleMaps();
        Due.isText("a new object", Shelves.state(m),
            "q 5 p 5 trace 0 [0, 1, 2, 3, 4] [0, 1, 2, 3, 4] [0, 1, 2, 3, 4] [0, 1, 2, 3, 4]");
        m.field(16);
        Due.is("another object's q is its own", new ShuffleMaps().count(0), 5);
        Due.is("and stays", m.count(0), 16);
    }

    private static void whatQWas() {
        Due.by("Promise 2", "THE FIELD of q numbers: what q was.");
        for (int before : Shelves.SIZES) {
            for (int q : Shelves.SIZES) {
                ShuffleMaps m = Shelves.of(before);
                Due.is("field(" + q + ") behind " + before, m.field(q), before);
                Due.is("q", m.count(0), q);
                Due.is("told again", m.field(q), q);
            }
        }
    }

    private static int digitSum(int q, int a, int b) {
        if (q == 9) {
            return (a % 3 + b % 3) % 3 + 3 * ((a / 3 + b / 3) % 3);
        }
        return q == 4 || q == 8 || q == 16 ? a ^ b : (a + b) % q;
    }

    private static int product(int q, int a, int b) {
        if (q == 9) {
            int low = a % 3 * (b % 3) + 2 * (a / 3) * (b / 3);
            int high = a % 3 * (b / 3) + a / 3 * (b % 3);
            return low % 3 + 3 * (high % 3);
        }
        if (q != 4 && q != 8 && q != 16) {
            return a * b % q;
        }
        int all = 0;
        for (int bit = q / 2; bit > 0; bit /= 2) {
            all = 2 * all ^ ((b & bit) != 0 ? a : 0);
            all = all >= q ? all ^ (q + 3) : all;
        }
        return all;
    }

    private static void sums() {
        Due.by("Promise 3", "The sum of two numbers.");
        for (int q : Shelves.SIZES) {
            ShuffleMaps m = Shelves.of(q);
            for (int a = 0; a < q; a++) {
                for (int b = 0; b < q; b++) {
                    Due.is("q " + q + ", " + a + " + " + b, m.plus(a, b), digitSum(q, a, b));
                }
            }
        }
    }

    private static void products() {
        Due.by("Promise 4", "The product of two numbers.");
        for (int q : Shelves.SIZES) {
            ShuffleMaps m = Shelves.of(q);
            for (int a = 0; a < q; a++) {
                for (int b = 0; b < q; b++) {
                    Due.is("q " + q + ", " + a + " by " + b, m.times(a, b), product(q, a, b));
                }
            }
        }
    }

    private static void over() {
        Due.by("Promise 5", "The number by which one gives 1.");
        for (int q : Shelves.SIZES) {
            ShuffleMaps m = Shelves.of(q);
            Due.is("over 1, q " + q, m.over(1), 1);
            for (int a = 1; a < q; a++) {
                Due.is("q " + q + ", " + a + " by what is over it", product(q, a, m.over(a)), 1);
            }
        }
    }

    private static void overZero() {
        Due.by("Promise 5", "STATE: of 0.");
        for (int q : Shelves.SIZES) {
            Due.is("over 0, q " + q, Shelves.of(q).over(0), STATE);
        }
    }

    private static void counts() {
        Due.by("Promise 29", "0 q, 1 the prime p, 2 MAPS that SHUFFLE.");
        int[] primes = {2, 3, 2, 5, 7, 2, 3, 11, 13, 2};
        for (int i = 0; i < primes.length; i++) {
            int q = Shelves.SIZES[i];
            ShuffleMaps m = Shelves.of(q);
            Due.is("q", m.count(0), q);
            Due.is("p, q " + q, m.count(1), primes[i]);
            Due.is("all four, q " + q, m.count(2), 4);
            for (int map = 3; map >= 0; map--) {
                m.set(map, q - 1, 0);
                Due.is("those before " + map + ", q " + q, m.count(2), map);
            }
            m.set(3, 0, q - 1);
            Due.is("the last one again, q " + q, m.count(2), 1);
        }
    }
}
