/** The sentences on differences and walks. */
final class DifferenceSentences {
    private static final int BAD = Shelves.BAD, STATE = Shelves.STATE, NO = Shelves.NO;

    private DifferenceSentences() {
    }

    static void all() {
        differences();
        greatestNumber();
        planarRows();
        walks();
        greatestWalk();
        none();
        difference();
        differenceByZero();
        spread();
        planar();
        walk();
        noWalk();
        linear();
        linearRefused();
    }

    private static void differences() {
        Due.by("Terms", "DIFFERENCES of a MAP by a (not 0): of x over all numbers, "
            + "what it takes x + a to less what it takes x to.");
        ShuffleMaps m = Shelves.with(0, 0, 1, 3, 3);
        Due.is("by 1, 4 + 1 is 0", m.difference(0, 1, 2), 2);
        Due.is("by 4, the other way", m.difference(0, 4, 3), 2);
        Due.is("less, not the other way", m.difference(0, 4, 4), 1);
        Due.is("3 less 0", m.difference(0, 2, 3), 1);
        ShuffleMaps nine = Shelves.of(9);
        Due.is("digit by digit: 2 + 1 is 0", nine.difference(0, 1, 1), 9);
        Due.is("by the last", nine.difference(0, 8, 8), 9);
        Due.is("less by the last", nine.difference(0, 8, 4), 0);
        for (int q : Shelves.SIZES) {
            ShuffleMaps x = Shelves.of(q);
            for (int a = 1; a < q; a++) {
                Due.is("x by " + a + ", q " + q, x.difference(0, a, a), q);
                Due.is("x by " + a + ", none is 0, q " + q, x.difference(0, a, 0), 0);
            }
        }
    }

    private static void greatestNumber() {
        Due.by("Terms", "SPREAD: the greatest number, over a, v, of x whose DIFFERENCE by a is v.");
        for (int q : Shelves.SIZES) {
            Due.is("x: all, q " + q, Shelves.of(q).spread(0), q);
            Due.is("all to the last: all, q " + q, Shelves.with(Shelves.constant(q, q - 1)).spread(0), q);
        }
        Due.is("1, the least there is", Shelves.with(0, 1, 4, 4, 1).spread(0), 1);
        Due.is("at v 0 alone", Shelves.with(4, 4, 0, 4, 0).spread(0), 3);
        Due.is("at a 1 alone", Shelves.with(15, 4, 11, 7, 12, 0, 2, 14, 6, 15, 11, 7, 11, 13, 12, 11).spread(0), 8);
        Due.is("at a q - 1 alone", Shelves.with(15, 12, 6, 6, 4, 9, 2, 15, 11, 4, 8, 4, 0, 2, 10, 6).spread(0), 6);
        Due.is("at v q - 1 alone", Shelves.with(15, 3, 8, 14, 6, 5, 9, 10, 13, 7, 12, 1, 5, 6, 3, 15).spread(0), 8);
    }

    private static void planarRows() {
        Due.by("Terms", "PLANAR: each DIFFERENCE SHUFFLES (SPREAD is 1).");
        for (int q : Shelves.ODD) {
            ShuffleMaps m = Shelves.of(q);
            m.make(0, 0, 2, 0, 0, 0);
            Due.is("x^2, q " + q, m.planar(0), 1);
            Due.is("its spread, q " + q, m.spread(0), 1);
            m.set(0, q - 1, q - 1);
            Due.is("one value off, q " + q, m.planar(0), 0);
        }
        for (int q : new int[] {2, 3, 4}) {
            for (int place = 0; place < Shelves.allRows(q); place++) {
                ShuffleMaps m = Shelves.with(Shelves.rowNumber(q, place));
                Due.is("row " + place + ", q " + q, m.planar(0), m.spread(0) == 1 ? 1 : 0);
                Due.isTrue("none where 1 + 1 is 0, q " + q, q == 3 || m.planar(0) == 0);
            }
        }
        Due.is("spread 2", Shelves.with(0, 1, 3, 2, 4).planar(0), 0);
    }

    private static void walks() {
        Due.by("Terms", "WALK of a MAP, q 2, 4, 8, 16: of a, b: the sum over x of 1 or -1, as a x + b f(x), both as bits "
            + "(x's and the numbers' bits, and'ed with a, with b), have an even or an odd number of ones together.");
        for (int q : Shelves.EVEN) {
            Due.is("no ones are even, q " + q, Shelves.of(q).walk(0, 0, 0), q);
            Due.is("x with itself, q " + q, Shelves.of(q).walk(0, q - 1, q - 1), q);
            Due.is("x alone, q " + q, Shelves.of(q).walk(0, q - 1, 0), 0);
            Due.is("f alone, q " + q, Shelves.of(q).walk(0, 0, q - 1), 0);
            Due.is("all odd, q " + q, Shelves.with(Shelves.constant(q, 1)).walk(0, 0, 1), -q);
            Due.is("the highest bit, q " + q, Shelves.with(Shelves.constant(q, q - 1)).walk(0, 0, q / 2), -q);
        }
        ShuffleMaps m = Shelves.with(0, 1, 2, 2);
        Due.is("by 3, 1: +, 0 with 0; +, 1 with 1; -, 1 with 0; +, 2 with 0", m.walk(0, 3, 1), 2);
        Due.is("by 1, 3: +, 0 with 0; +, 1 with 1; -, 0 with 1; +, 1 with 1", m.walk(0, 1, 3), 2);
        Due.is("by 2, 1: +, 0 with 0; -, 0 with 1; -, 1 with 0; -, 1 with 0", m.walk(0, 2, 1), -2);
    }

    private static void greatestWalk() {
        Due.by("Terms", "LINEAR: the greatest size of WALK with b not 0.");
        ShuffleMaps cube = Shelves.of(8);
        cube.make(0, 0, 3, 0, 0, 0);
        Due.is("b is not 0, or it were 8", cube.linear(0), 4);
        Due.is("its size, not itself", Shelves.with(1, 0).linear(0), 2);
        Due.is("its size of 4", Shelves.with(1, 0, 0, 2).linear(0), 4);
        Due.is("its size of 16", Shelves.with(5, 12, 1, 7, 1, 1, 10, 12, 15, 0, 2, 9, 2, 15, 13, 6).linear(0), 16);
        Due.is("above 0 alone of 16", Shelves.with(6, 6, 11, 2, 4, 7, 0, 12, 15, 13, 2, 13, 5, 2, 0, 13).linear(0), 12);
        Due.is("at a 0 alone", Shelves.with(0, 1, 2, 1, 3, 3, 3, 0).linear(0), 8);
        Due.is("at a q - 1 alone", Shelves.with(13, 8, 4, 10, 8, 7, 7, 8, 11, 13, 10, 9, 0, 8, 4, 0).linear(0), 14);
        Due.is("at b q - 1 alone", Shelves.with(0, 0, 0, 3).linear(0), 4);
        Due.is("at b 1 alone, of 2", Shelves.with(0, 1).linear(0), 2);
    }

    private static void none() {
        Due.by("Terms", "The constants: `NO = -1000000`: What none is, where a number may be below 0.");
        Due.is("NO", ShuffleMaps.NO, -1000000);
        Due.is("a walk that is as great as STATE", Shelves.with(1, 1).walk(0, 0, 1), -2);
        Due.is("none is another", Shelves.with(1, 1).walk(0, 0, 2), -1000000);
        Due.is("BAD", ShuffleMaps.BAD, -1);
        Due.is("STATE", ShuffleMaps.STATE, -2);
        Due.is("FULL", ShuffleMaps.FULL, -3);
        Due.is("NONE", ShuffleMaps.NONE, -9);
    }

    private static void difference() {
        Due.by("Promise 20", "How many x have the DIFFERENCE v by a.");
        for (int q : Shelves.SIZES) {
            ShuffleMaps m = Shelves.of(q);
            Shelves.put(m, 3, Shelves.constant(q, q - 1));
            Due.is("all, q " + q, m.difference(3, q - 1, 0), q);
            Due.is("none, q " + q, m.difference(3, q - 1, q - 1), 0);
            m.set(3, 0, 0);
            Due.is("all but two, q " + q, m.difference(3, 1, 0), q - 2);
            int all = 0;
            for (int v = 0; v < q; v++) {
                all += m.difference(3, 1, v);
            }
            Due.is("all v together, q " + q, all, q);
        }
    }

    private static void differenceByZero() {
        Due.by("Promise 20", "BAD: a is 0, too.");
        for (int q : Shelves.SIZES) {
            ShuffleMaps m = Shelves.of(q);
            Due.is("a 0, v 0, q " + q, m.difference(0, 0, 0), BAD);
            Due.is("a 0, v q - 1, q " + q, m.difference(0, 0, q - 1), BAD);
            Due.is("a 1, q " + q, m.difference(0, 1, 0), 0);
            Due.is("a q, q " + q, m.difference(0, q, 0), BAD);
            Due.is("a -1, q " + q, m.difference(0, -1, 0), BAD);
        }
    }

    private static void spread() {
        Due.by("Promise 21", "SPREAD.");
        ShuffleMaps m = Shelves.of(3);
        m.make(3, 0, 2, 0, 0, 0);
        Due.is("x^2 of 3", m.spread(3), 1);
        Due.is("x of 3", m.spread(0), 3);
        Due.is("x^2 of 3, asked again", m.spread(3), 1);
        Due.is("x of 2", Shelves.of(2).spread(0), 2);
        ShuffleMaps sixteen = Shelves.of(16);
        sixteen.make(0, 0, 3, 0, 0, 0);
        Due.is("x^3 of 16, the least there is", sixteen.spread(0), 2);
    }

    private static void planar() {
        Due.by("Promise 22", "Whether a MAP is PLANAR.");
        ShuffleMaps m = Shelves.of(13);
        m.make(3, 1, 2, 12, 12, 12);
        Due.is("x^2 dressed", m.planar(3), 1);
        Due.is("x", m.planar(0), 0);
        Shelves.put(m, 0, Shelves.constant(13, 0));
        Due.is("0", m.planar(0), 0);
    }

    private static void walk() {
        Due.by("Promise 23", "WALK.");
        ShuffleMaps m = Shelves.of(16);
        Shelves.put(m, 3, Shelves.constant(16, 15));
        Due.is("the greatest", m.walk(3, 0, 15), 16);
        Due.is("the least", m.walk(3, 0, 7), -16);
        m.set(3, 15, 0);
        Due.is("one value off", m.walk(3, 0, 7), -14);
        Due.is("one value off, with x", m.walk(3, 15, 7), 2);
    }

    private static void noWalk() {
        Due.by("Promise 23", "NO: BAD, or q is none of 2, 4, 8, 16.");
        for (int q : Shelves.ODD) {
            ShuffleMaps m = Shelves.of(q);
            Due.is("q " + q, m.walk(0, 0, 0), NO);
            Due.is("q " + q, m.walk(3, q - 1, q - 1), NO);
            Due.is("both, q " + q, m.walk(4, q, q), NO);
        }
        for (int q : Shelves.EVEN) {
            ShuffleMaps m = Shelves.of(q);
            Due.is("map 3, q " + q, m.walk(3, q - 1, q - 1), q);
            for (int out : new int[] {-1, q, Integer.MIN_VALUE, Integer.MAX_VALUE}) {
                Due.is("a " + out + ", q " + q, m.walk(0, out, 1), NO);
                Due.is("b " + out + ", q " + q, m.walk(0, 1, out), NO);
            }
            for (int map : new int[] {-1, 4, Integer.MIN_VALUE, Integer.MAX_VALUE}) {
                Due.is("map " + map + ", q " + q, m.walk(map, 1, 1), NO);
            }
        }
    }

    private static void linear() {
        Due.by("Promise 24", "LINEAR.");
        for (int q : Shelves.EVEN) {
            ShuffleMaps m = Shelves.of(q);
            Due.is("x, the greatest, q " + q, m.linear(3), q);
            Shelves.put(m, 0, Shelves.constant(q, q - 1));
            Due.is("all to the last, q " + q, m.linear(0), q);
        }
        ShuffleMaps m = Shelves.of(16);
        m.make(3, 0, 3, 0, 0, 0);
        Due.is("x^3 of 16", m.linear(3), 8);
        Due.is("x of 16", m.linear(0), 16);
    }

    private static void linearRefused() {
        Due.by("Promise 24", "STATE: q is none of these.");
        for (int q : Shelves.ODD) {
            ShuffleMaps m = Shelves.of(q);
            Due.is("map 0, q " + q, m.linear(0), STATE);
            Due.is("map 3, q " + q, m.linear(3), STATE);
            Due.is("map 4, q " + q, m.linear(4), BAD);
            Due.is("map -1, q " + q, m.linear(-1), BAD);
        }
        for (int q : Shelves.EVEN) {
            Due.is("one of these, q " + q, Shelves.of(q).linear(0), q);
        }
    }
}
