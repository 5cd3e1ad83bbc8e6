/** For each promise its ordinary inputs, the edges that the document names, and wrong inputs. */
final class PromisesTest {
    private static final int BAD = -1, STATE = -2, FULL = -3, NONE = -9, NO = -1000000;
    private static final int[] FAR = {Integer.MIN_VALUE, -1, Integer.MAX_VALUE};

    private PromisesTest() {
    }

    public static void main(String[] args) {
        constants();
        newObject();
        field();
        fieldTellsTheMapsAnew();
        plus();
        times();
        over();
        set();
        at();
        coefficient();
        change();
        degree();
        make();
        taste();
        chain();
        shuffles();
        fails();
        image();
        turn();
        order();
        fixed();
        difference();
        spread();
        planar();
        walk();
        linear();
        like();
        least();
        many();
        pick();
        count();
        trace();
        mapsOutsideTheShelves();
        Due.end();
    }

    private static ShuffleMaps over5() {
        return new ShuffleMaps();
    }

    private static void constants() {
        Due.is("BAD", ShuffleMaps.BAD, -1);
        Due.is("STATE", ShuffleMaps.STATE, -2);
        Due.is("FULL", ShuffleMaps.FULL, -3);
        Due.is("NONE", ShuffleMaps.NONE, -9);
        Due.is("NO", ShuffleMaps.NO, -1000000);
    }

    private static void newObject() {
        ShuffleMaps m = over5();
        Due.is("1: q", m.count(0), 5);
        Due.is("1: p", m.count(1), 5);
        Due.is("1: maps that shuffle", m.count(2), 4);
        Due.is("1: trace", m.trace(), 0);
        for (int map = 0; map < 4; map++) {
            Shelves.dueRow("1: a new map", m, map, 0, 1, 2, 3, 4);
        }
    }

    private static void field() {
        ShuffleMaps m = over5();
        int before = 5;
        for (int q = -3; q <= 40; q++) {
            boolean known = q == 2 || q == 3 || q == 4 || q == 5 || q == 7 || q == 8 || q == 9 || q == 11 || q == 13 || q == 16;
            Due.is("2: field(" + q + ")", m.field(q), known ? before : BAD);
            before = known ? q : before;
            Due.is("2: q after field(" + q + ")", m.count(0), before);
        }
        for (int q : FAR) {
            Due.is("2: field far", m.field(q), BAD);
        }
        Due.is("2: q stays", m.count(0), 16);
    }

    private static void fieldTellsTheMapsAnew() {
        ShuffleMaps m = over5();
        Shelves.put(m, 0, 4, 4, 4, 4, 4);
        m.taste(0, 1, 0, 0, 0, 0);
        Due.is("2: refused", m.field(6), BAD);
        Shelves.dueRow("2: a refused field leaves the maps", m, 0, 4, 4, 4, 4, 4);
        Due.is("2: the same q", m.field(5), 5);
        Shelves.dueRow("2: the same q told again", m, 0, 0, 1, 2, 3, 4);
        Due.is("2: the trace stays", m.trace(), 1);
        m.field(3);
        for (int map = 0; map < 4; map++) {
            Shelves.dueRow("2: a smaller field", m, map, 0, 1, 2);
        }
        m.make(2, 0, 2, 0, 0, 0);
        m.field(8);
        Shelves.dueRow("2: a greater field", m, 2, 0, 1, 2, 3, 4, 5, 6, 7);
    }

    private static void plus() {
        Due.is("3: 4 + 3 of 5", over5().plus(4, 3), 2);
        Due.is("3: 12 + 12 of 13", Shelves.of(13).plus(12, 12), 11);
        Due.is("3: 15 + 5 of 16", Shelves.of(16).plus(15, 5), 10);
        Due.is("3: 5 + 7 of 9", Shelves.of(9).plus(5, 7), 0);
        Due.is("3: 4 + 4 of 9", Shelves.of(9).plus(4, 4), 8);
        Due.is("3: 1 + 1 of 2", Shelves.of(2).plus(1, 1), 0);
        ShuffleMaps m = Shelves.of(4);
        Due.is("3: 3 + 1 of 4", m.plus(3, 1), 2);
        Due.is("3: a is q", m.plus(4, 0), BAD);
        Due.is("3: b is q", m.plus(0, 4), BAD);
        for (int far : FAR) {
            Due.is("3: a far", m.plus(far, 0), BAD);
            Due.is("3: b far", m.plus(0, far), BAD);
        }
    }

    private static void times() {
        Due.is("4: 4 4 of 5", over5().times(4, 4), 1);
        Due.is("4: 12 12 of 13", Shelves.of(13).times(12, 12), 1);
        Due.is("4: z z of 4", Shelves.of(4).times(2, 2), 3);
        Due.is("4: z zz of 8", Shelves.of(8).times(2, 4), 3);
        Due.is("4: z z of 9", Shelves.of(9).times(3, 3), 2);
        Due.is("4: (z + 1)(z + 2) of 9", Shelves.of(9).times(4, 5), 1);
        Due.is("4: z zzz of 16", Shelves.of(16).times(2, 8), 3);
        Due.is("4: 15 15 of 16", Shelves.of(16).times(15, 15), 10);
        ShuffleMaps m = Shelves.of(9);
        for (int a = 0; a < 9; a++) {
            Due.is("4: by 0", m.times(a, 0), 0);
            Due.is("4: by 1", m.times(1, a), a);
        }
        Due.is("4: a is q", m.times(9, 0), BAD);
        Due.is("4: b is q", m.times(0, 9), BAD);
        for (int far : FAR) {
            Due.is("4: a far", m.times(far, 0), BAD);
            Due.is("4: b far", m.times(0, far), BAD);
        }
    }

    private static void over() {
        Due.is("5: 3 of 5", over5().over(3), 2);
        Due.is("5: z of 4", Shelves.of(4).over(2), 3);
        Due.is("5: z of 9", Shelves.of(9).over(3), 6);
        Due.is("5: z of 16", Shelves.of(16).over(2), 9);
        Due.is("5: 1 of 2", Shelves.of(2).over(1), 1);
        ShuffleMaps m = Shelves.of(11);
        for (int a = 1; a < 11; a++) {
            Due.is("5: a by what is over it", m.times(a, m.over(a)), 1);
        }
        Due.is("5: of 0", m.over(0), STATE);
        Due.is("5: of q", m.over(11), BAD);
        for (int far : FAR) {
            Due.is("5: far", m.over(far), BAD);
        }
    }

    private static void set() {
        ShuffleMaps m = over5();
        Due.is("6: first", m.set(3, 4, 0), 4);
        Due.is("6: again", m.set(3, 4, 2), 0);
        Shelves.dueRow("6: the map", m, 3, 0, 1, 2, 3, 2);
        Shelves.dueRow("6: another map", m, 2, 0, 1, 2, 3, 4);
        Due.is("6: x is q", m.set(3, 5, 0), BAD);
        Due.is("6: v is q", m.set(3, 0, 5), BAD);
        for (int far : FAR) {
            Due.is("6: map far", m.set(far, 0, 1), BAD);
            Due.is("6: x far", m.set(3, far, 1), BAD);
            Due.is("6: v far", m.set(3, 0, far), BAD);
        }
        Shelves.dueRow("6: nothing changes", m, 3, 0, 1, 2, 3, 2);
    }

    private static void at() {
        ShuffleMaps m = Shelves.of(7);
        m.make(1, 0, 2, 0, 0, 0);
        Shelves.dueRow("7: squares", m, 1, 0, 1, 4, 2, 2, 4, 1);
        for (int far : FAR) {
            Due.is("7: x far", m.at(1, far), BAD);
        }
    }

    private static void coefficient() {
        ShuffleMaps m = over5();
        Shelves.put(m, 0, 1, 0, 0, 0, 0);
        int[] one = {1, 0, 0, 0, 4};
        for (int k = 0; k < 5; k++) {
            Due.is("8: 1 at 0 alone is 1 - x^4, c(" + k + ")", m.coefficient(0, k), one[k]);
            Due.is("8: x, c(" + k + ")", m.coefficient(1, k), k == 1 ? 1 : 0);
        }
        Shelves.put(m, 2, 3, 3, 3, 3, 3);
        Due.is("8: a constant's c(0)", m.coefficient(2, 0), 3);
        Due.is("8: a constant's c(4)", m.coefficient(2, 4), 0);
        m.make(3, 0, 5, 0, 0, 0);
        Due.is("8: x^5 is x", m.coefficient(3, 1), 1);
        m.make(3, 0, 8, 0, 0, 0);
        Due.is("8: x^8 is x^4", m.coefficient(3, 4), 1);
        Due.is("8: and nothing at 0", m.coefficient(3, 0), 0);
        Due.is("8: k is q", m.coefficient(0, 5), BAD);
        for (int far : FAR) {
            Due.is("8: k far", m.coefficient(0, far), BAD);
        }
        ShuffleMaps two = Shelves.of(2);
        Shelves.put(two, 0, 1, 0);
        Due.is("8: 1 + x of 2, c(0)", two.coefficient(0, 0), 1);
        Due.is("8: 1 + x of 2, c(1)", two.coefficient(0, 1), 1);
    }

    private static void change() {
        ShuffleMaps m = over5();
        Due.is("9: c(1)", m.change(0, 1, 2), 1);
        Shelves.dueRow("9: 2 x", m, 0, 0, 2, 4, 1, 3);
        Due.is("9: c(0)", m.change(0, 0, 1), 0);
        Shelves.dueRow("9: 2 x + 1", m, 0, 1, 3, 0, 2, 4);
        Due.is("9: c(4)", m.change(0, 4, 3), 0);
        Shelves.dueRow("9: 3 x^4 + 2 x + 1", m, 0, 1, 1, 3, 0, 2);
        Due.is("9: the others stay", m.coefficient(0, 1), 2);
        Due.is("9: c(4) again", m.change(0, 4, 3), 3);
        Shelves.dueRow("9: the same", m, 0, 1, 1, 3, 0, 2);
        Due.is("9: k is q", m.change(0, 5, 0), BAD);
        Due.is("9: v is q", m.change(0, 1, 5), BAD);
        for (int far : FAR) {
            Due.is("9: k far", m.change(0, far, 0), BAD);
            Due.is("9: v far", m.change(0, 0, far), BAD);
        }
        Shelves.dueRow("9: nothing changes", m, 0, 1, 1, 3, 0, 2);
    }

    private static void degree() {
        ShuffleMaps m = Shelves.of(9);
        Due.is("10: x", m.degree(0), 1);
        m.make(0, 0, 7, 0, 0, 0);
        Due.is("10: x^7", m.degree(0), 7);
        m.make(0, 0, 9, 0, 0, 0);
        Due.is("10: x^9 is x", m.degree(0), 1);
        m.make(0, 0, 8, 0, 0, 0);
        Due.is("10: x^8", m.degree(0), 8);
        m.make(0, 1, 1, 0, 0, 3);
        Due.is("10: 3", m.degree(0), 0);
        m.make(0, 1, 1, 0, 0, 0);
        Due.is("10: 0", m.degree(0), NONE);
    }

    private static void make() {
        ShuffleMaps m = over5();
        Due.is("11: POWER, a b c are not looked at", m.make(0, 0, 3, -1, 99, Integer.MIN_VALUE), 1);
        Shelves.dueRow("11: x^3", m, 0, 0, 1, 3, 2, 4);
        Due.is("11: DRESSED", m.make(1, 1, 3, 2, 1, 4), 1);
        Shelves.dueRow("11: 2 (x + 1)^3 + 4", m, 1, 1, 0, 3, 2, 4);
        Due.is("11: TWICE", m.make(2, 2, 3, 2, 1, 4), 1);
        Shelves.dueRow("11: that twice", m, 2, 0, 1, 2, 3, 4);
        Due.is("11: the greatest e", m.make(3, 0, 255, 0, 0, 0), 1);
        Shelves.dueRow("11: x^255 is x^3", m, 3, 0, 1, 3, 2, 4);
        Due.is("11: no trace", m.trace(), 0);
        Due.is("11: kind 3", m.make(1, 3, 1, 0, 0, 0), BAD);
        for (int kind = 0; kind <= 2; kind++) {
            Due.is("11: e is 0", m.make(1, kind, 0, 0, 0, 0), BAD);
            Due.is("11: e is 256", m.make(1, kind, 256, 0, 0, 0), BAD);
            for (int far : FAR) {
                Due.is("11: e far", m.make(1, kind, far, 0, 0, 0), BAD);
            }
        }
        for (int kind = 1; kind <= 2; kind++) {
            Due.is("11: a is q", m.make(1, kind, 1, 5, 0, 0), BAD);
            Due.is("11: b is q", m.make(1, kind, 1, 0, 5, 0), BAD);
            Due.is("11: c is q", m.make(1, kind, 1, 0, 0, 5), BAD);
            for (int far : FAR) {
                Due.is("11: kind far", m.make(1, far, 1, 0, 0, 0), BAD);
                Due.is("11: a far", m.make(1, kind, 1, far, 0, 0), BAD);
                Due.is("11: b far", m.make(1, kind, 1, 0, far, 0), BAD);
                Due.is("11: c far", m.make(1, kind, 1, 0, 0, far), BAD);
            }
        }
        Shelves.dueRow("11: nothing changes", m, 1, 1, 0, 3, 2, 4);
    }

    private static void taste() {
        ShuffleMaps m = over5();
        Due.is("12: POWER, a b c are not looked at", m.taste(0, 2, 99, -1, 5, 3), 4);
        Due.is("12: DRESSED", m.taste(1, 3, 2, 1, 4, 2), 3);
        Due.is("12: TWICE", m.taste(2, 3, 2, 1, 4, 2), 2);
        Due.is("12: 0 to the greatest e", m.taste(0, 255, 0, 0, 0, 0), 0);
        Due.is("12: trace", m.trace(), 1 + 11 + 122 + 1);
        for (int kind = 0; kind <= 2; kind++) {
            Due.is("12: e is 0", m.taste(kind, 0, 0, 0, 0, 0), BAD);
            Due.is("12: e is 256", m.taste(kind, 256, 0, 0, 0, 0), BAD);
            Due.is("12: x is q", m.taste(kind, 1, 0, 0, 0, 5), BAD);
            for (int far : FAR) {
                Due.is("12: kind far", m.taste(far, 1, 0, 0, 0, 0), BAD);
                Due.is("12: e far", m.taste(kind, far, 0, 0, 0, 0), BAD);
                Due.is("12: x far", m.taste(kind, 1, 0, 0, 0, far), BAD);
            }
        }
        for (int kind = 1; kind <= 2; kind++) {
            Due.is("12: a is q", m.taste(kind, 1, 5, 0, 0, 0), BAD);
            Due.is("12: b is q", m.taste(kind, 1, 0, 5, 0, 0), BAD);
            Due.is("12: c is q", m.taste(kind, 1, 0, 0, 5, 0), BAD);
        }
        Due.is("12: kind 3", m.taste(3, 1, 0, 0, 0, 0), BAD);
        Due.is("12: what is refused leaves no trace", m.trace(), 135);
        Shelves.dueRow("12: no map changes", m, 0, 0, 1, 2, 3, 4);
    }

    private static void chain() {
        ShuffleMaps m = over5();
        Shelves.put(m, 0, 1, 2, 3, 4, 0);
        Shelves.put(m, 1, 0, 2, 4, 1, 3);
        Due.is("13: outer at inner", m.chain(2, 0, 1), 1);
        Shelves.dueRow("13: 2 x + 1", m, 2, 1, 3, 0, 2, 4);
        Due.is("13: the other way", m.chain(2, 1, 0), 1);
        Shelves.dueRow("13: 2 (x + 1)", m, 2, 2, 4, 1, 3, 0);
        Due.is("13: onto the inner one", m.chain(1, 0, 1), 1);
        Shelves.dueRow("13: 2 x + 1 again", m, 1, 1, 3, 0, 2, 4);
        Due.is("13: onto both", m.chain(0, 0, 0), 1);
        Shelves.dueRow("13: x + 2", m, 0, 2, 3, 4, 0, 1);
        Shelves.put(m, 3, 0, 0, 1, 1, 2);
        Due.is("13: onto the outer one", m.chain(3, 3, 0), 1);
        Shelves.dueRow("13: no shuffle", m, 3, 1, 1, 2, 0, 0);
        for (int wrong : new int[] {-1, 4, Integer.MIN_VALUE, Integer.MAX_VALUE}) {
            Due.is("13: map", m.chain(wrong, 0, 0), BAD);
            Due.is("13: outer", m.chain(0, wrong, 0), BAD);
            Due.is("13: inner", m.chain(0, 0, wrong), BAD);
        }
        Shelves.dueRow("13: nothing changes", m, 0, 2, 3, 4, 0, 1);
    }

    private static void shuffles() {
        ShuffleMaps m = Shelves.of(3);
        Due.is("14: x", m.shuffles(0), 1);
        Shelves.put(m, 0, 2, 0, 1);
        Due.is("14: a round", m.shuffles(0), 1);
        Shelves.put(m, 0, 2, 0, 2);
        Due.is("14: two to 2", m.shuffles(0), 0);
        Shelves.put(m, 0, 1, 1, 1);
        Due.is("14: all to 1", m.shuffles(0), 0);
    }

    private static void fails() {
        ShuffleMaps m = over5();
        Due.is("15: x", m.fails(0), 0);
        Shelves.put(m, 0, 0, 0, 0, 0, 0);
        Due.is("15: 0 is taken too often", m.fails(0), 4);
        Shelves.put(m, 0, 1, 1, 1, 1, 1);
        Due.is("15: 0 is not taken", m.fails(0), 4);
        Shelves.put(m, 0, 1, 0, 0, 0, 0);
        Due.is("15: c(4) itself", m.fails(0), 1);
        m.make(0, 0, 2, 0, 0, 0);
        Due.is("15: x^2", m.fails(0), 2);
        Shelves.put(m, 0, 4, 3, 2, 1, 0);
        Due.is("15: -1 - x", m.fails(0), 0);
        ShuffleMaps three = Shelves.of(3);
        Shelves.put(three, 0, 1, 1, 0);
        Due.is("15: the greatest t alone, q - 2", three.fails(0), 1);
        ShuffleMaps two = Shelves.of(2);
        Due.is("15: x of 2", two.fails(0), 0);
        Shelves.put(two, 0, 1, 1);
        Due.is("15: 1 of 2", two.fails(0), 1);
        ShuffleMaps sixteen = Shelves.of(16);
        sixteen.make(0, 0, 3, 0, 0, 0);
        Due.is("15: x^3 of 16", sixteen.fails(0), 5);
        sixteen.make(0, 0, 15, 0, 0, 0);
        Due.is("15: x^15 of 16", sixteen.fails(0), 1);
    }

    private static void image() {
        ShuffleMaps m = Shelves.of(7);
        Due.is("16: x", m.image(0), 7);
        m.make(0, 0, 2, 0, 0, 0);
        Due.is("16: x^2", m.image(0), 4);
        m.make(0, 0, 6, 0, 0, 0);
        Due.is("16: x^6", m.image(0), 2);
        m.make(0, 1, 1, 0, 0, 6);
        Due.is("16: 6", m.image(0), 1);
    }

    private static void turn() {
        ShuffleMaps m = over5();
        Shelves.put(m, 0, 2, 0, 3, 4, 1);
        Due.is("17: turn", m.turn(0), 1);
        Shelves.dueRow("17: turned", m, 0, 1, 4, 0, 2, 3);
        Due.is("17: and back", m.turn(0), 1);
        Shelves.dueRow("17: as it was", m, 0, 2, 0, 3, 4, 1);
        Shelves.put(m, 0, 2, 0, 3, 4, 2);
        Due.is("17: no shuffle", m.turn(0), STATE);
        Shelves.dueRow("17: nothing changes", m, 0, 2, 0, 3, 4, 2);
    }

    private static void order() {
        ShuffleMaps m = Shelves.of(16);
        Due.is("18: x", m.order(0), 1);
        Shelves.put(m, 0, 1, 2, 3, 0, 5, 6, 7, 8, 4, 10, 11, 12, 13, 14, 15, 9);
        Due.is("18: rounds of 4, 5 and 7", m.order(0), 140);
        Shelves.put(m, 0, 1, 2, 3, 4, 5, 6, 7, 8, 9, 10, 11, 12, 13, 14, 15, 0);
        Due.is("18: one round", m.order(0), 16);
        Shelves.put(m, 0, 1, 0, 3, 4, 5, 2, 7, 8, 9, 10, 11, 6, 12, 13, 14, 15);
        Due.is("18: rounds of 2, 4 and 6", m.order(0), 12);
        m.set(0, 15, 0);
        Due.is("18: no shuffle", m.order(0), STATE);
    }

    private static void fixed() {
        ShuffleMaps m = Shelves.of(8);
        Due.is("19: x", m.fixed(0), 8);
        m.make(0, 0, 2, 0, 0, 0);
        Due.is("19: x^2", m.fixed(0), 2);
        m.make(0, 1, 1, 1, 0, 1);
        Due.is("19: x + 1", m.fixed(0), 0);
        m.make(0, 1, 1, 0, 0, 5);
        Due.is("19: 5", m.fixed(0), 1);
    }

    private static void difference() {
        ShuffleMaps m = over5();
        m.make(0, 0, 2, 0, 0, 0);
        Due.is("20: x^2 by 1", m.difference(0, 1, 3), 1);
        Shelves.put(m, 1, 0, 0, 1, 3, 3);
        Due.is("20: 0 by 1", m.difference(1, 1, 0), 2);
        Due.is("20: 1 by 1", m.difference(1, 1, 1), 1);
        Due.is("20: 2 by 1, round the end too", m.difference(1, 1, 2), 2);
        Due.is("20: 3 by 1", m.difference(1, 1, 3), 0);
        Due.is("20: a is 0", m.difference(1, 0, 0), BAD);
        Due.is("20: a is q", m.difference(1, 5, 0), BAD);
        Due.is("20: v is q", m.difference(1, 1, 5), BAD);
        for (int far : FAR) {
            Due.is("20: a far", m.difference(1, far, 0), BAD);
            Due.is("20: v far", m.difference(1, 1, far), BAD);
        }
    }

    private static void spread() {
        ShuffleMaps m = over5();
        Due.is("21: x", m.spread(0), 5);
        m.make(0, 0, 2, 0, 0, 0);
        Due.is("21: x^2", m.spread(0), 1);
        Shelves.put(m, 0, 0, 0, 1, 3, 3);
        Due.is("21: a row", m.spread(0), 3);
        ShuffleMaps sixteen = Shelves.of(16);
        sixteen.make(0, 0, 14, 0, 0, 0);
        Due.is("21: x^14 of 16", sixteen.spread(0), 4);
        sixteen.make(0, 0, 3, 0, 0, 0);
        Due.is("21: x^3 of 16", sixteen.spread(0), 2);
    }

    private static void planar() {
        ShuffleMaps m = Shelves.of(9);
        Due.is("22: x", m.planar(0), 0);
        m.make(0, 0, 2, 0, 0, 0);
        Due.is("22: x^2", m.planar(0), 1);
        m.make(0, 0, 4, 0, 0, 0);
        Due.is("22: x^4", m.planar(0), 0);
        ShuffleMaps four = Shelves.of(4);
        four.make(0, 0, 3, 0, 0, 0);
        Due.is("22: none of 4", four.planar(0), 0);
    }

    private static void walk() {
        ShuffleMaps m = Shelves.of(4);
        Due.is("23: 0, 0", m.walk(0, 0, 0), 4);
        Due.is("23: x with itself", m.walk(0, 3, 3), 4);
        Due.is("23: x with another", m.walk(0, 1, 3), 0);
        Shelves.put(m, 0, 0, 0, 0, 1);
        Due.is("23: a row", m.walk(0, 3, 1), -2);
        Due.is("23: a row with 0", m.walk(0, 0, 1), 2);
        Shelves.put(m, 0, 1, 1, 1, 1);
        Due.is("23: below 0", m.walk(0, 0, 1), -4);
        Due.is("23: a is q", m.walk(0, 4, 1), NO);
        Due.is("23: b is q", m.walk(0, 1, 4), NO);
        for (int far : FAR) {
            Due.is("23: map far", m.walk(far, 1, 1), NO);
            Due.is("23: a far", m.walk(0, far, 1), NO);
            Due.is("23: b far", m.walk(0, 1, far), NO);
        }
        Due.is("23: map 4", m.walk(4, 1, 1), NO);
        for (int q : new int[] {3, 5, 7, 9, 11, 13}) {
            Due.is("23: of " + q, Shelves.of(q).walk(0, 0, 0), NO);
        }
        Due.is("23: of 2", Shelves.of(2).walk(0, 1, 1), 2);
        Due.is("23: of 16", Shelves.of(16).walk(0, 15, 15), 16);
    }

    private static void linear() {
        ShuffleMaps m = Shelves.of(8);
        Due.is("24: x", m.linear(0), 8);
        m.make(0, 0, 3, 0, 0, 0);
        Due.is("24: x^3", m.linear(0), 4);
        m.make(0, 1, 3, 1, 0, 7);
        Due.is("24: its size, x^3 + 7", m.linear(0), 4);
        Due.is("24: of 2", Shelves.of(2).linear(0), 2);
        ShuffleMaps sixteen = Shelves.of(16);
        sixteen.make(0, 0, 14, 0, 0, 0);
        Due.is("24: x^14 of 16", sixteen.linear(0), 8);
        for (int q : new int[] {3, 5, 7, 9, 11, 13}) {
            Due.is("24: of " + q, Shelves.of(q).linear(0), STATE);
            Due.is("24: BAD ahead of STATE", Shelves.of(q).linear(4), BAD);
        }
    }

    private static void like() {
        ShuffleMaps m = Shelves.of(7);
        m.make(0, 0, 2, 0, 0, 0);
        m.make(1, 1, 2, 3, 4, 5);
        Due.is("25: dressed", m.like(0, 1), 1);
        Due.is("25: and back", m.like(1, 0), 1);
        Due.is("25: itself", m.like(0, 0), 1);
        m.set(1, 0, m.plus(m.at(1, 0), 1));
        Due.is("25: one value off", m.like(0, 1), 0);
        Shelves.put(m, 2, 0, 0, 0, 0, 0, 0, 0);
        Shelves.put(m, 3, 6, 6, 6, 6, 6, 6, 6);
        Due.is("25: constants", m.like(2, 3), 1);
        Due.is("25: a is not 0", m.like(0, 3), 0);
        for (int wrong : new int[] {-1, 4, Integer.MIN_VALUE, Integer.MAX_VALUE}) {
            Due.is("25: map", m.like(wrong, 0), BAD);
            Due.is("25: other", m.like(0, wrong), BAD);
        }
    }

    private static void least() {
        ShuffleMaps m = over5();
        Shelves.put(m, 0, 3, 3, 3, 3, 3);
        Due.is("26: a constant", m.least(0), 1);
        Shelves.dueRow("26: 0", m, 0, 0, 0, 0, 0, 0);
        m.make(1, 1, 2, 3, 2, 4);
        Due.is("26: like x^2", m.least(1), 1);
        Shelves.dueRow("26: the least like x^2", m, 1, 0, 0, 1, 3, 1);
        Shelves.put(m, 2, 4, 3, 2, 1, 0);
        Due.is("26: like x", m.least(2), 1);
        Shelves.dueRow("26: x", m, 2, 0, 1, 2, 3, 4);
        Shelves.put(m, 3, 1, 1, 4, 1, 1);
        Due.is("26: one off", m.least(3), 1);
        Shelves.dueRow("26: the one off comes last", m, 3, 0, 0, 0, 0, 1);
    }

    private static void many() {
        int[][] all = {
            {2, 1, 1, 2, 4, 8}, {3, 1, 0, 2, 6, 18}, {4, 1, 1, 0, 6, 24}, {5, 1, 0, 5, 0, 24}, {7, 1, 0, 0, 14, 105}};
        for (int[] row : all) {
            ShuffleMaps small = Shelves.of(row[0]);
            for (int d = 1; d <= 5; d++) {
                Due.is("27: of " + row[0] + ", degree " + d, small.many(d), row[d]);
            }
        }
        ShuffleMaps m = over5();
        Due.is("27: degree 0", m.many(0), BAD);
        Due.is("27: degree 6", m.many(6), BAD);
        for (int far : FAR) {
            Due.is("27: far", m.many(far), BAD);
        }
        Due.is("27: 8^4 are not too many", Shelves.of(8).many(5), 64);
        Due.is("27: 9^4 are too many", Shelves.of(9).many(5), FULL);
        Due.is("27: 11^4 are too many", Shelves.of(11).many(5), FULL);
        Due.is("27: 13^3 are not too many", Shelves.of(13).many(4), 0);
        Due.is("27: 13^4 are too many", Shelves.of(13).many(5), FULL);
        ShuffleMaps sixteen = Shelves.of(16);
        Due.is("27: 16^4 are too many", sixteen.many(5), FULL);
        Due.is("27: 16^3 are not", sixteen.many(4), 86);
        Due.is("27: x^2 of 16", sixteen.many(2), 1);
        Due.is("27: BAD ahead of FULL", sixteen.many(6), BAD);
    }

    private static void pick() {
        ShuffleMaps m = over5();
        int[] numbers = {0, 7, 13, 18, 22};
        for (int i = 0; i < 5; i++) {
            int number = m.pick(0, 3, i);
            Due.is("28: (x + a)^3 less a^3, in order", number, numbers[i]);
            Due.is("28: c(1)", m.coefficient(0, 1), number % 5);
            Due.is("28: c(2)", m.coefficient(0, 2), number / 5);
            Due.is("28: c(3)", m.coefficient(0, 3), 1);
            Due.is("28: c(0)", m.at(0, 0), 0);
            Due.is("28: shuffles", m.shuffles(0), 1);
        }
        Due.is("28: the first", m.pick(1, 3, 0), numbers[0]);
        Shelves.dueRow("28: x^3", m, 1, 0, 1, 3, 2, 4);
        Due.is("28: the last", m.pick(1, 3, 4), numbers[4]);
        Due.is("28: no more", m.pick(1, 3, 5), BAD);
        Due.is("28: no shuffles of degree 2", m.pick(1, 2, 0), BAD);
        Due.is("28: degree 0", m.pick(1, 0, 0), BAD);
        Due.is("28: degree 6", m.pick(1, 6, 0), BAD);
        for (int far : FAR) {
            Due.is("28: i far", m.pick(1, 3, far), BAD);
            Due.is("28: degree far", m.pick(1, far, 0), BAD);
        }
        Due.is("28: nothing changes", m.coefficient(1, 2), 4);
        ShuffleMaps nine = Shelves.of(9);
        Due.is("28: FULL", nine.pick(0, 5, 0), FULL);
        Due.is("28: FULL ahead of whether there are so many", nine.pick(0, 5, Integer.MAX_VALUE), FULL);
        Due.is("28: BAD map ahead of FULL", nine.pick(4, 5, 0), BAD);
        Due.is("28: BAD i ahead of FULL", nine.pick(0, 5, -1), BAD);
        Due.is("28: after FULL", nine.pick(0, 1, 0), 0);
    }

    private static void count() {
        int[][] sizes = {{2, 2}, {3, 3}, {4, 2}, {5, 5}, {7, 7}, {8, 2}, {9, 3}, {11, 11}, {13, 13}, {16, 2}};
        for (int[] size : sizes) {
            ShuffleMaps m = Shelves.of(size[0]);
            Due.is("29: q", m.count(0), size[0]);
            Due.is("29: p", m.count(1), size[1]);
        }
        ShuffleMaps m = over5();
        for (int map = 0; map < 4; map++) {
            m.set(map, 0, 1);
            Due.is("29: maps that shuffle", m.count(2), 3 - map);
        }
        m.set(2, 1, 0);
        Due.is("29: one shuffles again", m.count(2), 1);
        Due.is("29: 3", m.count(3), BAD);
        for (int far : FAR) {
            Due.is("29: far", m.count(far), BAD);
        }
    }

    private static void trace() {
        ShuffleMaps m = over5();
        m.make(0, 2, 3, 1, 1, 1);
        Due.is("30: make leaves none", m.trace(), 0);
        m.taste(0, 1, 0, 0, 0, 0);
        Due.is("30: POWER", m.trace(), 1);
        m.taste(1, 1, 0, 0, 0, 0);
        Due.is("30: DRESSED asks POWER once, by 0 too", m.trace(), 12);
        m.taste(2, 1, 0, 0, 0, 0);
        Due.is("30: TWICE asks DRESSED twice", m.trace(), 134);
        m.taste(2, 1, 0, 0, 0, 5);
        m.make(0, 1, 3, 1, 1, 1);
        Due.is("30: neither what is refused nor make", m.trace(), 134);
        m.field(7);
        Due.is("30: a field leaves it", m.trace(), 134);
        for (int i = 0; i < 400; i++) {
            m.taste(2, 255, 6, 6, 6, 6);
        }
        Due.is("30: many", m.trace(), 134 + 400 * 122);
    }

    /** Every call that takes a map, with one that is none, in a field where each other number is fine. */
    private static void mapsOutsideTheShelves() {
        ShuffleMaps m = Shelves.of(8);
        for (int map : new int[] {-1, 4, Integer.MIN_VALUE, Integer.MAX_VALUE}) {
            Due.is("set", m.set(map, 0, 0), BAD);
            Due.is("at", m.at(map, 0), BAD);
            Due.is("coefficient", m.coefficient(map, 0), BAD);
            Due.is("change", m.change(map, 0, 0), BAD);
            Due.is("degree", m.degree(map), BAD);
            Due.is("make", m.make(map, 0, 1, 0, 0, 0), BAD);
            Due.is("shuffles", m.shuffles(map), BAD);
            Due.is("fails", m.fails(map), BAD);
            Due.is("image", m.image(map), BAD);
            Due.is("turn", m.turn(map), BAD);
            Due.is("order", m.order(map), BAD);
            Due.is("fixed", m.fixed(map), BAD);
            Due.is("difference", m.difference(map, 1, 0), BAD);
            Due.is("spread", m.spread(map), BAD);
            Due.is("planar", m.planar(map), BAD);
            Due.is("linear", m.linear(map), BAD);
            Due.is("least", m.least(map), BAD);
            Due.is("pick", m.pick(map, 1, 0), BAD);
        }
        Due.is("all maps stay", m.count(2) + m.fixed(0) + m.fixed(1) + m.fixed(2) + m.fixed(3), 36);
    }
}
