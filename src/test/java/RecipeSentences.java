/** The sentences on recipes: the kinds, their numbers' bounds, what is not looked at, and the trace. */
final class RecipeSentences {
    private static final int BAD = Shelves.BAD;
    private static final int POWER = 0, DRESSED = 1, TWICE = 2;
    private static final int[] OUTSIDE = {-1, 5, Integer.MIN_VALUE, Integer.MAX_VALUE};

    private RecipeSentences() {
    }

    static void all() {
        kinds();
        exponents();
        bodiesAsked();
        power();
        dressed();
        twice();
        make();
        notLookedAt();
        taste();
        asMake();
        trace();
    }

    private static void kinds() {
        Due.by("Terms", "RECIPES, by which one is made, are of KINDS over one another: 0 POWER, 1 DRESSED, 2 TWICE; "
            + "POWER stands over DRESSED, DRESSED over TWICE.");
        ShuffleMaps m = Shelves.of(7);
        Due.is("POWER", m.taste(0, 2, 3, 1, 5, 2), 4);
        Due.is("DRESSED is POWER dressed", m.taste(1, 2, 3, 1, 5, 2), 4);
        Due.is("TWICE is DRESSED twice", m.taste(2, 2, 3, 1, 5, 2), 3);
        for (int kind : new int[] {-1, 3, Integer.MIN_VALUE, Integer.MAX_VALUE}) {
            Due.is("taste, kind " + kind, m.taste(kind, 2, 3, 1, 5, 2), BAD);
            Due.is("make, kind " + kind, m.make(0, kind, 2, 3, 1, 5), BAD);
        }
    }

    private static void exponents() {
        Due.by("Terms", "What a RECIPE with numbers e (1 .. 255), a, b, c takes x to");
        for (int kind = POWER; kind <= TWICE; kind++) {
            ShuffleMaps m = Shelves.of(5);
            Due.is("e 1, kind " + kind, m.taste(kind, 1, 1, 0, 0, 3), 3);
            // 255 is 3 more than a multiple of 4; 3 raised to 3 is 2, and 2 raised to 3 is 3 again.
            Due.is("e 255, kind " + kind, m.taste(kind, 255, 1, 0, 0, 3), kind == TWICE ? 3 : 2);
            for (int e : new int[] {0, 256, -1, Integer.MIN_VALUE, Integer.MAX_VALUE}) {
                Due.is("taste, e " + e + ", kind " + kind, m.taste(kind, e, 1, 0, 0, 3), BAD);
                Due.is("make, e " + e + ", kind " + kind, m.make(0, kind, e, 1, 0, 0), BAD);
            }
        }
    }

    private static void bodiesAsked() {
        Due.by("Terms", "(numbers in brackets are added to THE TRACE, 0 at first, as often as taste() asks that body; "
            + "\"up\" is what the KIND that stands over it does):");
        ShuffleMaps m = new ShuffleMaps();
        Due.is("at first", m.trace(), 0);
        for (int kind = POWER; kind <= TWICE; kind++) {
            m.make(kind, kind, 2, 1, 1, 1);
        }
        Due.is("make() is not taste()", m.trace(), 0);
        m.taste(POWER, 256, 0, 0, 0, 0);
        m.taste(DRESSED, 1, 5, 0, 0, 0);
        m.taste(TWICE, 1, 0, 0, 0, 5);
        m.taste(3, 1, 0, 0, 0, 0);
        Due.is("what is refused asks none", m.trace(), 0);
        m.taste(TWICE, 1, 0, 0, 0, 0);
        Due.is("TWICE asks DRESSED twice, and that POWER once each", m.trace(), 100 + 2 * 10 + 2);
        m.taste(DRESSED, 1, 0, 0, 0, 0);
        Due.is("DRESSED asks POWER once", m.trace(), 122 + 10 + 1);
        m.taste(POWER, 255, 0, 0, 0, 4);
        Due.is("POWER is asked once, whatever e", m.trace(), 133 + 1);
    }

    private static void power() {
        Due.by("Terms", "POWER x raised to e (1).");
        for (int q : Shelves.SIZES) {
            Model slow = new Model();
            slow.field(q);
            for (int e : new int[] {1, 2, q - 1, q, 2 * q - 2, 2 * q - 1, 254, 255}) {
                ShuffleMaps m = Shelves.of(q);
                for (int x = 0; x < q; x++) {
                    Due.is("q " + q + ", " + x + " raised to " + e, m.taste(POWER, e, 0, 0, 0, x), slow.raise(x, e));
                }
                Due.is("0 stays 0, q " + q + ", e " + e, m.taste(POWER, e, 0, 0, 0, 0), 0);
                Due.is("trace", m.trace(), q + 1);
            }
            ShuffleMaps m = Shelves.of(q);
            Due.is("the last raised to q - 1, q " + q, m.taste(POWER, q - 1, 0, 0, 0, q - 1), 1);
            Due.is("the last raised to q, q " + q, m.taste(POWER, q, 0, 0, 0, q - 1), q - 1);
        }
    }

    private static void dressed() {
        Due.by("Terms", "DRESSED a times up at (x + b), and c (10).");
        ShuffleMaps m = Shelves.of(5);
        Due.is("x + b goes around to 0", m.taste(DRESSED, 3, 4, 4, 2, 1), 2);
        Due.is("a times goes around", m.taste(DRESSED, 1, 4, 0, 0, 4), 1);
        Due.is("and c goes around", m.taste(DRESSED, 1, 1, 0, 4, 1), 0);
        Due.is("a is 0", m.taste(DRESSED, 3, 0, 4, 3, 4), 3);
        Due.is("b is added ahead of the power", m.taste(DRESSED, 2, 1, 1, 0, 2), 4);
        Due.is("nothing but the power", m.taste(DRESSED, 3, 1, 0, 0, 2), 3);
        Due.is("trace", m.trace(), 6 * 11);
        Due.is("of 9: 2 (8 + 8)^2 + 4", Shelves.of(9).taste(DRESSED, 2, 2, 8, 4, 8), 7);
    }

    private static void twice() {
        Due.by("Terms", "TWICE up at what up takes x to (100).");
        ShuffleMaps m = Shelves.of(5);
        Due.is("x + 3 twice goes around", m.taste(TWICE, 1, 1, 3, 0, 4), 0);
        Due.is("a is 0", m.taste(TWICE, 3, 0, 4, 3, 4), 3);
        Due.is("(x + 1)^2 + 1 twice", m.taste(TWICE, 2, 1, 1, 1, 1), 2);
        Due.is("trace", m.trace(), 3 * 122);
        Due.is("x + 1 of 2 twice", Shelves.of(2).taste(TWICE, 255, 1, 1, 0, 0), 0);
    }

    private static void make() {
        Due.by("Promise 11", "A MAP becomes what a RECIPE makes: 1.");
        for (int q : Shelves.SIZES) {
            for (int kind = POWER; kind <= TWICE; kind++) {
                for (int e : new int[] {1, 255}) {
                    ShuffleMaps m = Shelves.of(q);
                    int map = kind == POWER ? 0 : 3;
                    Due.is("q " + q + " kind " + kind, m.make(map, kind, e, q - 1, 1, q - 1), 1);
                    for (int x = 0; x < q; x++) {
                        Due.is("q " + q + " kind " + kind + " e " + e + " at " + x,
                            m.at(map, x), m.taste(kind, e, q - 1, 1, q - 1, x));
                    }
                    Shelves.dueRow("another map", m, 1, Shelves.same(q));
                }
            }
        }
        ShuffleMaps m = Shelves.of(5);
        m.make(0, DRESSED, 1, 0, 0, 0);
        Shelves.dueRow("all to 0", m, 0, 0, 0, 0, 0, 0);
        m.make(0, DRESSED, 1, 4, 4, 4);
        Shelves.dueRow("4 (x + 4) + 4", m, 0, 0, 4, 3, 2, 1);
    }

    private static void notLookedAt() {
        Due.by("Promise 11", "BAD: KIND, e, a, b, c (those of other KINDS are not looked at: POWER e; DRESSED, TWICE all).");
        for (int out : OUTSIDE) {
            ShuffleMaps m = Shelves.of(5);
            Due.is("POWER, a " + out, m.make(0, POWER, 2, out, 0, 0), 1);
            Due.is("POWER, b " + out, m.make(1, POWER, 2, 0, out, 0), 1);
            Due.is("POWER, c " + out, m.make(2, POWER, 2, 0, 0, out), 1);
            Due.is("POWER, all " + out, m.make(3, POWER, 2, out, out, out), 1);
            Due.is("POWER, e", m.make(3, POWER, 0, out, out, out), BAD);
            for (int map = 0; map < 4; map++) {
                Shelves.dueRow("x^2", m, map, 0, 1, 4, 4, 1);
            }
            for (int kind = DRESSED; kind <= TWICE; kind++) {
                Due.is("kind " + kind + ", a " + out, m.make(0, kind, 1, out, 0, 0), BAD);
                Due.is("kind " + kind + ", b " + out, m.make(0, kind, 1, 0, out, 0), BAD);
                Due.is("kind " + kind + ", c " + out, m.make(0, kind, 1, 0, 0, out), BAD);
            }
            Shelves.dueRow("nothing changes", m, 0, 0, 1, 4, 4, 1);
        }
    }

    private static void taste() {
        Due.by("Promise 12", "What a RECIPE takes x to.");
        for (int q : Shelves.SIZES) {
            ShuffleMaps m = Shelves.of(q);
            Due.is("the first number, q " + q, m.taste(POWER, 1, 0, 0, 0, 0), 0);
            Due.is("the last number, q " + q, m.taste(POWER, 1, 0, 0, 0, q - 1), q - 1);
            Due.is("the last of DRESSED, q " + q, m.taste(DRESSED, 1, 1, 0, 0, q - 1), q - 1);
            Due.is("the last of TWICE, q " + q, m.taste(TWICE, 1, 1, 0, 0, q - 1), q - 1);
            Shelves.dueRow("no map is made", m, 0, Shelves.same(q));
        }
    }

    private static void asMake() {
        Due.by("Promise 12", "BAD, as make().");
        for (int out : OUTSIDE) {
            ShuffleMaps m = Shelves.of(5);
            Due.is("POWER, a, b and c " + out, m.taste(POWER, 2, out, out, out, 3), 4);
            Due.is("trace", m.trace(), 1);
            for (int kind = DRESSED; kind <= TWICE; kind++) {
                Due.is("kind " + kind + ", a " + out, m.taste(kind, 1, out, 0, 0, 0), BAD);
                Due.is("kind " + kind + ", b " + out, m.taste(kind, 1, 0, out, 0, 0), BAD);
                Due.is("kind " + kind + ", c " + out, m.taste(kind, 1, 0, 0, out, 0), BAD);
            }
            for (int kind = POWER; kind <= TWICE; kind++) {
                Due.is("kind " + kind + ", x " + out, m.taste(kind, 1, 0, 0, 0, out), BAD);
            }
            Due.is("what is refused leaves no trace", m.trace(), 1);
        }
    }

    private static void trace() {
        Due.by("Promise 30", "THE TRACE.");
        ShuffleMaps m = new ShuffleMaps();
        Due.is("at first", m.trace(), 0);
        for (int i = 0; i < 500; i++) {
            m.taste(TWICE, 255, 4, 4, 4, 4);
        }
        Due.is("of 500 tastes", m.trace(), 500 * 122);
        Due.is("asked again, the same", m.trace(), 500 * 122);
        m.field(2);
        Due.is("behind a field", m.trace(), 500 * 122);
        Due.is("another object's is its own", new ShuffleMaps().trace(), 0);
    }
}
