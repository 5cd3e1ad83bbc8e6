import java.util.Arrays;

/** The sentences on maps that are like one another, and the least of them. */
final class DressSentences {
    /** Rows that no dress but the plain one takes to themselves, so that each dress gives another row. */
    private static final int[][] FREE = {{0, 3, 2, 0}, {1, 3, 2, 4, 2}, {0, 3, 0, 2, 3, 4, 6}};

    private DressSentences() {
    }

    static void all() {
        someDress();
        leastRow();
        like();
        least();
    }

    private static Model slow(int q) {
        Model slow = new Model();
        slow.field(q);
        return slow;
    }

    private static void dueLike(String what, int[] f, int[] g, int due) {
        ShuffleMaps m = Shelves.with(f);
        Shelves.put(m, 3, g);
        Due.is(what + " " + Arrays.toString(f) + Arrays.toString(g), m.like(0, 3), due);
        Due.is(what + " and back " + Arrays.toString(f) + Arrays.toString(g), m.like(3, 0), due);
    }

    private static void someDress() {
        Due.by("Terms", "LIKE are two MAPS f, g, if for some a, b not 0 and c, d: "
            + "g takes x to a f(b x + c) + d, for all x.");
        for (int[] f : FREE) {
            int q = f.length;
            for (int a = 0; a < q; a++) {
                for (int b = 0; b < q; b++) {
                    for (int c = 0; c < q; c++) {
                        // Every d comes, each with other a, b and c: all four at once would be too many.
                        int d = (a + 2 * b + 3 * c) % q;
                        int[] g = slow(q).dress(f, a, b, c, d);
                        dueLike("by " + a + ", " + b + ", " + c + ", " + d, f, g, a == 0 || b == 0 ? 0 : 1);
                    }
                }
            }
        }
        int[] f = FREE[1];
        Model five = slow(5);
        dueLike("a alone, the greatest", f, five.dress(f, 4, 1, 0, 0), 1);
        dueLike("b alone, the greatest", f, five.dress(f, 1, 4, 0, 0), 1);
        dueLike("c alone, the greatest", f, five.dress(f, 1, 1, 4, 0), 1);
        dueLike("d alone, the greatest", f, five.dress(f, 1, 1, 0, 4), 1);
        dueLike("none of them", f, f, 1);
        forAllX();
    }

    private static void forAllX() {
        dueLike("not at 0", new int[] {0, 1, 2, 3, 4}, new int[] {1, 1, 2, 3, 4}, 0);
        dueLike("not at the last", new int[] {0, 1, 2, 3, 4}, new int[] {0, 1, 2, 3, 3}, 0);
        dueLike("x and 2 x + 1", new int[] {0, 1, 2, 3, 4}, new int[] {1, 3, 0, 2, 4}, 1);
        dueLike("x and a map to 4, a is not 0", new int[] {0, 1, 2, 3, 4}, Shelves.constant(5, 4), 0);
    }

    private static void leastRow() {
        Due.by("Terms", "THE LEAST of those LIKE one: its ROW is the least (by its first number, then the next ..).");
        for (int[] f : FREE) {
            int q = f.length;
            ShuffleMaps m = Shelves.with(f);
            m.least(0);
            int[] least = Shelves.row(m, 0);
            Model slow = slow(q);
            boolean met = false;
            for (int a = 1; a < q; a++) {
                for (int b = 1; b < q; b++) {
                    for (int c = 0; c < q; c++) {
                        for (int d = 0; d < q; d++) {
                            int order = Arrays.compare(slow.dress(f, a, b, c, d), least);
                            Due.isTrue("none is less than " + Arrays.toString(least), order >= 0);
                            met |= order == 0;
                        }
                    }
                }
            }
            Due.isTrue("it is one of them " + Arrays.toString(least), met);
        }
        dueLeast("the last number decides", new int[] {0, 0, 0, 0, 1}, 1, 0, 0, 0, 0);
        dueLeast("the second decides", new int[] {0, 1, 2, 3, 4}, 4, 1, 3, 0, 2);
        dueLeast("like x^2: 0 0 1 3 1, not 0 0 2 1 2", new int[] {0, 0, 1, 3, 1}, 0, 1, 4, 4, 1);
    }

    private static void dueLeast(String what, int[] due, int... row) {
        ShuffleMaps m = Shelves.of(row.length);
        Shelves.put(m, 3, row);
        Due.is(what, m.least(3), 1);
        Shelves.dueRow(what, m, 3, due);
    }

    private static void like() {
        Due.by("Promise 25", "Whether two MAPS are LIKE.");
        ShuffleMaps m = new ShuffleMaps();
        for (int map = 0; map < 4; map++) {
            for (int other = 0; other < 4; other++) {
                Due.is("at first", m.like(map, other), 1);
            }
        }
        m.set(3, 4, 0);
        for (int map = 0; map < 4; map++) {
            Due.is("one value off, " + map, m.like(map, 3), map == 3 ? 1 : 0);
            Due.is("and back, " + map, m.like(3, map), map == 3 ? 1 : 0);
        }
        dueLike("of 2, constants", new int[] {0, 0}, new int[] {1, 1}, 1);
        dueLike("of 2, shuffles", new int[] {0, 1}, new int[] {1, 0}, 1);
        dueLike("of 2, one of each", new int[] {0, 0}, new int[] {0, 1}, 0);
        for (int q : Shelves.SIZES) {
            dueLike("constants, q " + q, Shelves.constant(q, 0), Shelves.constant(q, q - 1), 1);
            dueLike("a constant and x, q " + q, Shelves.constant(q, q - 1), Shelves.same(q), 0);
        }
    }

    private static void least() {
        Due.by("Promise 26", "A MAP becomes THE LEAST of those LIKE it: 1.");
        for (int q : Shelves.SIZES) {
            dueLeast("x, q " + q, Shelves.same(q), Shelves.same(q));
            dueLeast("0, q " + q, Shelves.constant(q, 0), Shelves.constant(q, 0));
            dueLeast("all to the last, q " + q, Shelves.constant(q, 0), Shelves.constant(q, q - 1));
            int[] one = Shelves.constant(q, 0);
            one[q - 1] = 1;
            int[] first = Shelves.constant(q, q - 1);
            first[0] = 0;
            dueLeast("one value off, q " + q, one, first);
            ShuffleMaps m = Shelves.with(first);
            m.least(0);
            m.least(0);
            Shelves.dueRow("the least of the least, q " + q, m, 0, one);
            Shelves.dueRow("another map, q " + q, m, 1, Shelves.same(q));
        }
        dueLeast("of 2", new int[] {0, 1}, 1, 0);
    }
}
