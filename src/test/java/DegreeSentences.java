/** The sentences on all polynomials of a degree: bounds of the degree, too many, the order, and the first and the last. */
final class DegreeSentences {
    private static final int BAD = Shelves.BAD, FULL = Shelves.FULL;
    private static final int[] FAR = {Integer.MIN_VALUE, -1, 0, 6, 7, Integer.MAX_VALUE};

    private DegreeSentences() {
    }

    static void all() {
        polynomials();
        inOrder();
        many();
        manyFull();
        pick();
        pickFull();
        notSoMany();
    }

    private static boolean isFull(int q, int degree) {
        return degree == 5 && q >= 9;
    }

    private static void polynomials() {
        Due.by("Terms", "ALL of a degree: POLYNOMIALS x^d + c(d - 1) x^(d-1) + .. + c(1) x (c(0) is 0), d 1 .. 5, "
            + "with as many as q^(d - 1) at most 5000:");
        for (int q : Shelves.SIZES) {
            for (int degree = 1; degree <= 5; degree++) {
                ShuffleMaps m = Shelves.of(q);
                int many = m.many(degree);
                Due.is("too many, q " + q + " degree " + degree, many == FULL ? 1 : 0, isFull(q, degree) ? 1 : 0);
                Due.isTrue("some or none, q " + q + " degree " + degree, isFull(q, degree) || many >= 0);
                for (int i = 0; i < Math.min(many, 100); i++) {
                    m.pick(0, degree, i);
                    Due.is("c(0), q " + q + " degree " + degree + " " + i, m.at(0, 0), 0);
                    Due.is("c(d), q " + q + " degree " + degree + " " + i,
                        degree < q ? m.coefficient(0, degree) : 1, 1);
                }
            }
            for (int degree : FAR) {
                Due.is("many, q " + q + " degree " + degree, Shelves.of(q).many(degree), BAD);
                Due.is("pick, q " + q + " degree " + degree, Shelves.of(q).pick(0, degree, 0), BAD);
            }
        }
    }

    private static void inOrder() {
        Due.by("Terms", "how many of them SHUFFLE, and which, by their numbers c(1) + c(2) q + .. in order.");
        // Over 2 numbers 1 goes to 1 just if an even number of the four are 1: 0 is the first of all 16, 15 the last.
        int[] even = {0, 3, 5, 6, 9, 10, 12, 15};
        ShuffleMaps two = Shelves.of(2);
        Due.is("of 2", two.many(5), even.length);
        for (int i = 0; i < even.length; i++) {
            Due.is("of 2, " + i, two.pick(0, 5, i), even[i]);
        }
        // (x + a)^3 less a^3 is x^3 + 3 a x^2 + 3 a a x.
        int[] cubes = {0, 3 + 5 * 2, 3 + 5 * 3, 2 + 5 * 1, 2 + 5 * 4};
        java.util.Arrays.sort(cubes);
        ShuffleMaps five = Shelves.of(5);
        Due.is("of 5", five.many(3), cubes.length);
        for (int i = 0; i < cubes.length; i++) {
            Due.is("of 5, " + i, five.pick(0, 3, i), cubes[i]);
        }
        greatestNumbers();
    }

    private static void greatestNumbers() {
        for (int q : new int[] {4, 8, 16}) {
            int degree = q == 8 ? 5 : 4;
            ShuffleMaps m = Shelves.of(q);
            int before = -1;
            for (int i = 0; i < m.many(degree) && i < 100; i++) {
                int number = m.pick(0, degree, i);
                Due.isTrue("behind the one before, q " + q + " " + i, number > before);
                Due.is("c(1), q " + q + " " + i, degree < q ? m.coefficient(0, 1) : number % q, number % q);
                Due.is("c(2), q " + q + " " + i, degree < q ? m.coefficient(0, 2) : number / q % q, number / q % q);
                Due.is("shuffles, q " + q + " " + i, m.shuffles(0), 1);
                before = number;
            }
        }
    }

    private static void many() {
        Due.by("Promise 27", "How many of ALL of a degree SHUFFLE.");
        int[][] all = {
            {2, 1, 1, 2, 4, 8}, {3, 1, 0, 2, 6, 18}, {4, 1, 1, 0, 6, 24}, {5, 1, 0, 5, 0, 24}, {7, 1, 0, 0, 14, 105},
            {8, 1, 1, 8, 22, 64}, {9, 1, 0, 5, 0, FULL}, {11, 1, 0, 11, 0, FULL}, {13, 1, 0, 0, 0, FULL},
            {16, 1, 1, 0, 86, FULL}};
        for (int[] row : all) {
            ShuffleMaps m = Shelves.of(row[0]);
            for (int degree = 5; degree >= 1; degree--) {
                Due.is("q " + row[0] + " degree " + degree, m.many(degree), row[degree]);
                Due.is("again, q " + row[0] + " degree " + degree, m.many(degree), row[degree]);
            }
            Shelves.dueRow("no map changes", m, 0, Shelves.same(row[0]));
        }
        ShuffleMaps m = Shelves.of(8);
        Due.is("of 8", m.many(3), 8);
        m.field(7);
        Due.is("of 7 behind 8", m.many(3), 0);
        m.field(8);
        Due.is("of 8 again", m.many(3), 8);
    }

    private static void manyFull() {
        Due.by("Promise 27", "FULL: there are more than 5000.");
        Due.is("8^4 is 4096", Shelves.of(8).many(5), 64);
        Due.is("16^3 is 4096", Shelves.of(16).many(4), 86);
        Due.is("9^4 is 6561, the least beyond", Shelves.of(9).many(5), FULL);
        Due.is("11^4 is 14641", Shelves.of(11).many(5), FULL);
        Due.is("13^4 is 28561", Shelves.of(13).many(5), FULL);
        Due.is("16^4 is 65536", Shelves.of(16).many(5), FULL);
        Due.is("degree 6 is BAD ahead of FULL", Shelves.of(16).many(6), BAD);
        Due.is("degree far is BAD ahead of FULL", Shelves.of(16).many(Integer.MAX_VALUE), BAD);
    }

    private static void pick() {
        Due.by("Promise 28", "A MAP becomes the i-th of these (0 the first): its number.");
        ShuffleMaps m = Shelves.of(5);
        Due.is("the first", m.pick(0, 3, 0), 0);
        Shelves.dueRow("x^3", m, 0, 0, 1, 3, 2, 4);
        Due.is("the last", m.pick(3, 3, 4), 22);
        Shelves.dueRow("x^3 + 4 x^2 + 2 x", m, 3, 0, 2, 3, 4, 1);
        Shelves.dueRow("another map", m, 1, Shelves.same(5));
        Due.is("the only one of degree 1", m.pick(0, 1, 0), 0);
        Shelves.dueRow("x", m, 0, Shelves.same(5));
        ShuffleMaps two = Shelves.of(2);
        Due.is("degree beyond q - 1: x^2 of 2", two.pick(0, 2, 0), 0);
        Due.is("is the map x", two.degree(0), 1);
        Due.is("x^3 + x^2 + x of 2", two.pick(0, 3, 1), 3);
        Due.is("is the map x, too", two.degree(0), 1);
        ShuffleMaps eight = Shelves.of(8);
        Due.is("the first of 64", eight.pick(0, 5, 0), 0);
        eight.pick(0, 5, 63);
        Due.is("the last of 64", eight.shuffles(0), 1);
        Due.is("its degree", eight.degree(0), 5);
    }

    private static void pickFull() {
        Due.by("Promise 28", "FULL (ahead of whether there are so many);");
        for (int q : new int[] {9, 11, 13, 16}) {
            ShuffleMaps m = Shelves.of(q);
            Shelves.put(m, 0, Shelves.round(q));
            Due.is("the first, q " + q, m.pick(0, 5, 0), FULL);
            Due.is("more than there can be, q " + q, m.pick(0, 5, q * q * q * q), FULL);
            Due.is("far, q " + q, m.pick(3, 5, Integer.MAX_VALUE), FULL);
            Due.is("no such map is BAD ahead of FULL, q " + q, m.pick(4, 5, 0), BAD);
            Due.is("no such degree is BAD ahead of FULL, q " + q, m.pick(0, 6, 0), BAD);
            Due.is("i below 0 is no number as told, BAD ahead of FULL, q " + q, m.pick(0, 5, -1), BAD);
            Shelves.dueRow("nothing changes, q " + q, m, 0, Shelves.round(q));
        }
        Due.is("8^4 is not FULL", Shelves.of(8).pick(0, 5, 64), BAD);
    }

    private static void notSoMany() {
        Due.by("Promise 28", "BAD: there are not so many.");
        for (int q : Shelves.SIZES) {
            for (int degree = 1; degree <= 5; degree++) {
                if (!isFull(q, degree)) {
                    ShuffleMaps m = Shelves.of(q);
                    Shelves.put(m, 3, Shelves.round(q));
                    int many = m.many(degree);
                    String what = "q " + q + " degree " + degree;
                    for (int i : new int[] {many, many + 1, Integer.MAX_VALUE, -1, Integer.MIN_VALUE}) {
                        Due.is(what + " i " + i, m.pick(3, degree, i), BAD);
                    }
                    Shelves.dueRow(what + ", nothing changes", m, 3, Shelves.round(q));
                    Due.isTrue(what + ", the last", many == 0 || m.pick(3, degree, many - 1) >= many - 1);
                }
            }
        }
    }
}
