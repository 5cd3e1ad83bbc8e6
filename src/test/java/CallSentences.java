/** The sentence on how many calls an object is used for. */
final class CallSentences {
    private static final int MOST_CALLS = 512;
    private static final String[] CALLS = {
        "field", "plus", "times", "over", "set", "at", "coefficient", "change", "degree", "make", "taste", "chain",
        "shuffles", "fails", "image", "turn", "order", "fixed", "difference", "spread", "planar", "walk", "linear",
        "like", "least", "many", "pick", "count"};
    private static final int[] NUMBERS = {-1, 0, 1, 2, 3, 4, 5, 16, 255, 256, Integer.MIN_VALUE, Integer.MAX_VALUE};

    private CallSentences() {
    }

    static void all() {
        Due.by("What it is",
            "An object is used for at most 512 calls after it has been made; what later calls answer is free.");
        theLastTrace();
        theLastRow();
        fieldsInTurn();
        laterCallsEnd();
    }

    private static void theLastTrace() {
        ShuffleMaps m = new ShuffleMaps();
        for (int i = 1; i < MOST_CALLS; i++) {
            m.taste(2, 255, 4, 4, 4, i % 5);
        }
        Due.is("trace, as the 512th call", m.trace(), (MOST_CALLS - 1) * 122);
    }

    private static void theLastRow() {
        ShuffleMaps m = Shelves.of(16);
        for (int i = 1; i < MOST_CALLS - 1; i++) {
            m.set(3, 15, i % 16);
        }
        Due.is("set, as the 512th call", m.set(3, 15, 7), (MOST_CALLS - 2) % 16);
    }

    /** Each call a field or the search that is dearest in it. */
    private static void fieldsInTurn() {
        int[] many = {8, 18, 24, 24, 105, 64, -3, -3, -3, -3};
        ShuffleMaps m = new ShuffleMaps();
        for (int i = 0; i < MOST_CALLS / 2; i++) {
            int turn = i % Shelves.SIZES.length;
            int before = i == 0 ? 5 : Shelves.SIZES[(turn + 9) % 10];
            Due.is("field, call " + (2 * i + 1), m.field(Shelves.SIZES[turn]), before);
            Due.is("many, call " + (2 * i + 2), m.many(5), many[turn]);
        }
    }

    /** What they answer is free, but not whether they throw. */
    private static void laterCallsEnd() {
        ShuffleMaps m = new ShuffleMaps();
        long seed = 1;
        int done = 0;
        for (int i = 0; i < 8 * MOST_CALLS; i++) {
            String call = CALLS[i % CALLS.length];
            int[] with = new int[parameters(call)];
            for (int k = 0; k < with.length; k++) {
                seed = seed * 6364136223846793005L + 1442695040888963407L;
                with[k] = NUMBERS[(int) ((seed >>> 33) % NUMBERS.length)];
            }
            Refusals.answer(m, call, with);
            done++;
        }
        Due.is("calls that ended", done, 8 * MOST_CALLS);
    }

    private static int parameters(String call) {
        for (java.lang.reflect.Method method : ShuffleMaps.class.getMethods()) {
            if (method.getName().equals(call)) {
                return method.getParameterCount();
            }
        }
        return 0;
    }
}
