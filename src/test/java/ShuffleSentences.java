/** The sentences on shuffling: by values and by powers, how many are met, turning back, and rounds. */
final class ShuffleSentences {
    private static final int STATE = Shelves.STATE;

    private ShuffleSentences() {
    }

    static void all() {
        justOneToEach();
        byPowers();
        leastFail();
        leastRounds();
        shuffles();
        fails();
        image();
        turn();
        turnRefused();
        order();
        orderRefused();
        fixed();
    }

    /** Its numbers in turn, but the one at x is v. */
    private static int[] sameBut(int q, int x, int v) {
        int[] row = Shelves.same(q);
        row[x] = v;
        return row;
    }

    private static int[] backwards(int q) {
        int[] row = new int[q];
        for (int x = 0; x < q; x++) {
            row[x] = q - 1 - x;
        }
        return row;
    }

    private static void justOneToEach() {
        Due.by("Terms", "A MAP SHUFFLES, if it takes to each number just one.");
        for (int q : Shelves.SIZES) {
            Due.is("x, q " + q, Shelves.of(q).shuffles(0), 1);
            Due.is("a round, q " + q, Shelves.with(Shelves.round(q)).shuffles(0), 1);
            Due.is("backwards, q " + q, Shelves.with(backwards(q)).shuffles(0), 1);
            Due.is("all to 0, q " + q, Shelves.with(Shelves.constant(q, 0)).shuffles(0), 0);
            Due.is("all to the last, q " + q, Shelves.with(Shelves.constant(q, q - 1)).shuffles(0), 0);
            Due.is("none to 0, q " + q, Shelves.with(sameBut(q, 0, q - 1)).shuffles(0), 0);
            Due.is("none to the last, q " + q, Shelves.with(sameBut(q, q - 1, 0)).shuffles(0), 0);
        }
        Due.is("two pairs whose sum is as if each once", Shelves.with(0, 1, 1, 4, 4).shuffles(0), 0);
        Due.is("bits that cancel", Shelves.with(0, 0, 3, 3).shuffles(0), 0);
    }

    private static void byPowers() {
        Due.by("Terms", "BY POWERS: that is so just if (1) it takes just one number to 0, "
            + "and (2) for each t, 1 .. q - 2, its t-th power (value by value) has c(q - 1) 0.");
        for (int q : new int[] {2, 3, 4, 5}) {
            for (int place = 0; place < Shelves.allRows(q); place++) {
                ShuffleMaps m = Shelves.with(Shelves.rowNumber(q, place));
                Due.is("q " + q + ", row " + place, m.fails(0) == 0 ? 1 : 0, m.shuffles(0));
            }
        }
        Due.is("(1) alone, none to 0", Shelves.with(1, 1, 1, 1, 1).fails(0), 4);
        Due.is("(1) alone, two to 0", Shelves.with(0, 0, 1, 1).fails(0), 3);
        Due.is("(1) alone, all to 0", Shelves.with(0, 0, 0, 0, 0).fails(0), 4);
        Due.is("(2) alone", Shelves.with(0, 1, 1, 1, 2).fails(0), 2);
        Due.is("t is 1, the least", Shelves.with(0, 1, 1, 1, 1).fails(0), 1);
        Due.is("t is q - 2, the greatest", Shelves.with(0, 1, 1).fails(0), 1);
    }

    private static void leastFail() {
        Due.by("Terms", "FAILS: the least t for which that is not so (q - 1 as to (1)); 0: none.");
        for (int q : Shelves.SIZES) {
            Due.is("none, q " + q, Shelves.of(q).fails(0), 0);
            Due.is("none of backwards, q " + q, Shelves.with(backwards(q)).fails(0), 0);
            Due.is("all to 0, q " + q, Shelves.with(Shelves.constant(q, 0)).fails(0), q - 1);
            Due.is("all to 1, q " + q, Shelves.with(Shelves.constant(q, 1)).fails(0), q - 1);
        }
        Due.is("(1) and t 1", Shelves.with(0, 0, 1, 1, 1).fails(0), 1);
        Due.is("(1) and t 2", Shelves.with(0, 0, 0, 1, 4).fails(0), 2);
        Due.is("(1), t 2 and not t 1", Shelves.with(1, 1, 1, 3, 4).fails(0), 2);
        Due.is("t 3 of 7", Shelves.with(6, 3, 0, 5, 5, 3, 6).fails(0), 3);
        Due.is("(1) and t 3 of 7", Shelves.with(5, 1, 6, 4, 4, 4, 4).fails(0), 3);
        Due.is("t 5 of 9", Shelves.with(8, 1, 6, 1, 5, 6, 0, 5, 4).fails(0), 5);
        Due.is("(1) alone of 9", Shelves.with(8, 5, 8, 7, 7, 5, 8, 7, 5).fails(0), 8);
        Due.is("(1) alone of 8, four to 0", Shelves.with(5, 0, 4, 0, 0, 0, 5, 4).fails(0), 7);
    }

    private static void leastRounds() {
        Due.by("Terms", "ROUNDS of one that SHUFFLES: ITS ORDER is the least n, 1 or more, "
            + "so that it done n times takes each to itself.");
        for (int q : Shelves.SIZES) {
            Due.is("x, once and not 0 times, q " + q, Shelves.of(q).order(0), 1);
            Due.is("one round of all, q " + q, Shelves.with(Shelves.round(q)).order(0), q);
            Due.is("backwards, q " + q, Shelves.with(backwards(q)).order(0), 2);
        }
        Due.is("rounds of 2 and 3", Shelves.with(1, 0, 3, 4, 2).order(0), 6);
        Due.is("rounds of 2 and 4, not their product", Shelves.with(1, 0, 3, 4, 5, 2, 6).order(0), 4);
        Due.is("the greatest of 16",
            Shelves.with(1, 2, 3, 0, 5, 6, 7, 8, 4, 10, 11, 12, 13, 14, 15, 9).order(0), 140);
        Due.is("rounds of 4, 6 and 6",
            Shelves.with(1, 2, 3, 0, 5, 6, 7, 8, 9, 4, 11, 12, 13, 14, 15, 10).order(0), 12);
    }

    private static void shuffles() {
        Due.by("Promise 14", "Whether a MAP SHUFFLES.");
        ShuffleMaps m = Shelves.of(3);
        int found = 0;
        for (int place = 0; place < Shelves.allRows(3); place++) {
            Shelves.put(m, 3, Shelves.rowNumber(3, place));
            int answer = m.shuffles(3);
            Due.isTrue("0 or 1", answer == 0 || answer == 1);
            found += answer;
        }
        Due.is("of all rows of 3", found, 6);
        Due.is("each shelf by itself", m.shuffles(0), 1);
    }

    private static void fails() {
        Due.by("Promise 15", "FAILS.");
        ShuffleMaps m = Shelves.with(1, 1);
        Due.is("q 2 has no t but q - 1: all to 1", m.fails(0), 1);
        Shelves.put(m, 3, 0, 0);
        Due.is("q 2: all to 0", m.fails(3), 1);
        Shelves.put(m, 3, 1, 0);
        Due.is("q 2: turned around", m.fails(3), 0);
        Due.is("asked again, the same", m.fails(0), 1);
        ShuffleMaps sixteen = Shelves.of(16);
        sixteen.make(0, 0, 15, 0, 0, 0);
        Due.is("x^15 of 16", sixteen.fails(0), 1);
        sixteen.make(0, 0, 5, 0, 0, 0);
        Due.is("x^5 of 16", sixteen.fails(0), 3);
        sixteen.make(0, 0, 3, 0, 0, 0);
        Due.is("x^3 of 16", sixteen.fails(0), 5);
        Shelves.dueRow("nothing changes", m, 0, 1, 1);
    }

    private static void image() {
        Due.by("Promise 16", "How many numbers a MAP takes something to.");
        for (int q : Shelves.SIZES) {
            Due.is("all, q " + q, Shelves.of(q).image(0), q);
            Due.is("0 alone, q " + q, Shelves.with(Shelves.constant(q, 0)).image(0), 1);
            Due.is("the last alone, q " + q, Shelves.with(Shelves.constant(q, q - 1)).image(0), 1);
            Due.is("all but 0, q " + q, Shelves.with(sameBut(q, 0, q - 1)).image(0), q - 1);
            Due.is("all but the last, q " + q, Shelves.with(sameBut(q, q - 1, 0)).image(0), q - 1);
        }
    }

    private static void turn() {
        Due.by("Promise 17", "A MAP becomes that which turns it back: 1.");
        for (int q : Shelves.SIZES) {
            ShuffleMaps m = Shelves.with(Shelves.round(q));
            Shelves.put(m, 3, backwards(q));
            Due.is("a round, q " + q, m.turn(0), 1);
            int[] back = new int[q];
            for (int x = 0; x < q; x++) {
                back[x] = (x + q - 1) % q;
            }
            Shelves.dueRow("a round turned back", m, 0, back);
            m.turn(0);
            Shelves.dueRow("and again", m, 0, Shelves.round(q));
            Due.is("backwards, q " + q, m.turn(3), 1);
            Shelves.dueRow("backwards turns itself back", m, 3, backwards(q));
            Due.is("x, q " + q, m.turn(1), 1);
            Shelves.dueRow("x", m, 1, Shelves.same(q));
        }
    }

    /** Rows that shuffle but for one number, at either end of the row. */
    private static int[][] almost(int q) {
        return new int[][] {sameBut(q, 0, q - 1), sameBut(q, q - 1, 0), Shelves.constant(q, 0), Shelves.constant(q, q - 1)};
    }

    private static void turnRefused() {
        Due.by("Promise 17", "STATE: it does not SHUFFLE.");
        for (int q : Shelves.SIZES) {
            for (int[] row : almost(q)) {
                ShuffleMaps m = Shelves.with(row);
                Due.is("turn, q " + q, m.turn(0), STATE);
                Shelves.dueRow("nothing changes", m, 0, row);
                Due.is("another map, q " + q, m.turn(1), 1);
            }
        }
    }

    private static void order() {
        Due.by("Promise 18", "ITS ORDER.");
        ShuffleMaps m = Shelves.of(13);
        Shelves.put(m, 3, 1, 2, 3, 4, 0, 6, 7, 8, 5, 10, 11, 9, 12);
        Due.is("rounds of 5, 4, 3 and 1", m.order(3), 60);
        Shelves.dueRow("nothing changes", m, 3, 1, 2, 3, 4, 0, 6, 7, 8, 5, 10, 11, 9, 12);
        Due.is("another map", m.order(0), 1);
    }

    private static void orderRefused() {
        Due.by("Promise 18", "STATE: it does not SHUFFLE.");
        for (int q : Shelves.SIZES) {
            for (int[] row : almost(q)) {
                ShuffleMaps m = Shelves.with(row);
                Due.is("order, q " + q, m.order(0), STATE);
                Due.is("another map, q " + q, m.order(1), 1);
            }
        }
    }

    private static void fixed() {
        Due.by("Promise 19", "How many numbers a MAP takes to themselves.");
        for (int q : Shelves.SIZES) {
            Due.is("all, q " + q, Shelves.of(q).fixed(0), q);
            Due.is("none, q " + q, Shelves.with(Shelves.round(q)).fixed(0), 0);
            Due.is("0 alone, q " + q, Shelves.with(Shelves.constant(q, 0)).fixed(0), 1);
            Due.is("the last alone, q " + q, Shelves.with(Shelves.constant(q, q - 1)).fixed(0), 1);
            Due.is("all but 0, q " + q, Shelves.with(sameBut(q, 0, q - 1)).fixed(0), q - 1);
        }
    }
}
