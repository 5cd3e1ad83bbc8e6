import java.lang.reflect.Method;
import java.util.ArrayList;
import java.util.Arrays;
import java.util.List;

/**
 * What is refused, for each call and each of its numbers: too small, too great and far off, in each field and
 * with the other numbers at either end of what they may be; and that the ends themselves are not refused.
 */
final class Refusals {
    private static final int BAD = Shelves.BAD, STATE = Shelves.STATE, FULL = Shelves.FULL, NO = Shelves.NO;

    /**
     * Promise, sentence, call, and a sign for each number: m a map, n a number of the field, a one that is not 0,
     * k a kind, e an exponent, d a degree, i a place in a listing, w what is counted, f a field's size.
     */
    private static final String[][] CALLS = {
        {"2", "BAD.", "field", "f"}, {"3", "BAD.", "plus", "nn"}, {"4", "BAD.", "times", "nn"}, {"5", "BAD;", "over", "n"},
        {"6", "BAD.", "set", "mnn"}, {"7", "BAD.", "at", "mn"}, {"8", "BAD: k 0 .. q - 1.", "coefficient", "mn"},
        {"9", "BAD.", "change", "mnn"}, {"10", "BAD.", "degree", "m"},
        {"11", "BAD: KIND, e, a, b, c (those of other KINDS are not looked at: POWER e; DRESSED, TWICE all).",
            "make", "mkennn"},
        {"12", "BAD, as make().", "taste", "kennnn"}, {"13", "BAD.", "chain", "mmm"}, {"14", "BAD.", "shuffles", "m"},
        {"15", "BAD.", "fails", "m"}, {"16", "BAD.", "image", "m"}, {"17", "BAD;", "turn", "m"},
        {"18", "BAD;", "order", "m"}, {"19", "BAD.", "fixed", "m"}, {"20", "BAD: a is 0, too.", "difference", "man"},
        {"21", "BAD.", "spread", "m"}, {"22", "BAD.", "planar", "m"},
        {"23", "NO: BAD, or q is none of 2, 4, 8, 16.", "walk", "mnn"}, {"24", "BAD;", "linear", "m"},
        {"25", "BAD.", "like", "mm"}, {"26", "BAD.", "least", "m"}, {"27", "BAD;", "many", "d"},
        {"28", "BAD;", "pick", "mdi"}, {"29", "BAD.", "count", "w"}};

    /** Beyond this the slow model is too slow to search all dresses. */
    private static final int GREATEST_SLOW_DRESS = 9;

    private Refusals() {
    }

    static void all() {
        for (String[] call : CALLS) {
            Due.by("Promise " + call[0], call[1]);
            for (int q : Shelves.SIZES) {
                outside(q, call[2], call[3]);
                ends(q, call[2], call[3]);
            }
        }
        firstOfThese();
    }

    /** Numbers at either end of what a sign stands for; POWER is left to the ends, as it looks at e alone. */
    private static int[] ends(char sign, int q) {
        switch (sign) {
            case 'm': return new int[] {0, 3};
            case 'n': return new int[] {0, q - 1};
            case 'a': return new int[] {1, q - 1};
            case 'k': return new int[] {1, 2};
            case 'e': return new int[] {1, 255};
            case 'd': return new int[] {1, 5};
            case 'i': return new int[] {0, 0};
            case 'w': return new int[] {0, 2};
            default: return new int[] {2, 16};
        }
    }

    private static int[] wrong(char sign, int q) {
        switch (sign) {
            case 'm': return new int[] {-1, 4, Integer.MIN_VALUE, Integer.MAX_VALUE};
            case 'n': return new int[] {-1, q, Integer.MIN_VALUE, Integer.MAX_VALUE};
            case 'a': return new int[] {-1, 0, q, Integer.MIN_VALUE, Integer.MAX_VALUE};
            case 'k': return new int[] {-1, 3, Integer.MIN_VALUE, Integer.MAX_VALUE};
            case 'e': return new int[] {-1, 0, 256, Integer.MIN_VALUE, Integer.MAX_VALUE};
            case 'd': return new int[] {-1, 0, 6, Integer.MIN_VALUE, Integer.MAX_VALUE};
            case 'i': return new int[] {-1, Integer.MIN_VALUE};
            case 'w': return new int[] {-1, 3, Integer.MIN_VALUE, Integer.MAX_VALUE};
            default: return new int[] {-5, 0, 1, 6, 10, 12, 14, 15, 17, 25, Integer.MIN_VALUE, Integer.MAX_VALUE};
        }
    }

    static long answer(Object asked, String call, int... with) {
        Object[] boxed = new Object[with.length];
        for (int i = 0; i < with.length; i++) {
            boxed[i] = with[i];
        }
        for (Method method : asked.getClass().getDeclaredMethods()) {
            if (method.getName().equals(call) && method.getParameterCount() == with.length) {
                return answer(asked, method, boxed);
            }
        }
        throw new IllegalStateException("no call " + call);
    }

    private static long answer(Object asked, Method method, Object[] with) {
        try {
            return ((Number) method.invoke(asked, with)).longValue();
        } catch (ReflectiveOperationException broken) {
            throw new IllegalStateException(method + Arrays.toString(with), broken);
        }
    }

    /** Four maps that differ, of which two shuffle, and a trace: so that whatever changes can be seen. */
    private static void prepare(Object asked, int q) {
        answer(asked, "field", q);
        for (int x = 0; x < q; x++) {
            answer(asked, "set", 0, x, (x + 1) % q);
            answer(asked, "set", 1, x, q - 1);
        }
        answer(asked, "make", 2, 0, 2, 0, 0, 0);
        answer(asked, "set", 2, 0, q - 1);
        answer(asked, "taste", 2, 1, 1, 0, 0, 0);
    }

    private static void refused(int q, String call, int[] with, long due) {
        ShuffleMaps m = new ShuffleMaps();
        prepare(m, q);
        String before = Shelves.state(m);
        String what = "q " + q + " " + call + Arrays.toString(with);
        Due.is(what, answer(m, call, with), due);
        Due.isText(what + ", nothing changes", Shelves.state(m), before);
    }

    private static void outside(int q, String call, String signs) {
        for (int end = 0; end < 2; end++) {
            for (int place = 0; place < signs.length(); place++) {
                for (int out : wrong(signs.charAt(place), q)) {
                    int[] with = new int[signs.length()];
                    for (int i = 0; i < with.length; i++) {
                        with[i] = ends(signs.charAt(i), q)[end];
                    }
                    with[place] = out;
                    refused(q, call, with, call.equals("walk") ? NO : BAD);
                }
            }
        }
    }

    private static List<int[]> allEnds(int q, String signs) {
        List<int[]> all = new ArrayList<>();
        for (int choice = 0; choice < 1 << signs.length(); choice++) {
            int[] with = new int[signs.length()];
            for (int i = 0; i < with.length; i++) {
                with[i] = ends(signs.charAt(i), q)[choice >> i & 1];
            }
            all.add(with);
            int kind = signs.indexOf('k');
            if (kind >= 0) {
                int[] power = with.clone();
                power[kind] = 0;
                all.add(power);
            }
        }
        return all;
    }

    private static void ends(int q, String call, String signs) {
        if (q > GREATEST_SLOW_DRESS && (call.equals("like") || call.equals("least"))) {
            return;
        }
        for (int[] with : allEnds(q, signs)) {
            ShuffleMaps m = new ShuffleMaps();
            Model slow = new Model();
            prepare(m, q);
            prepare(slow, q);
            String what = "q " + q + " " + call + Arrays.toString(with);
            Due.is(what, answer(m, call, with), answer(slow, call, with));
            Due.isText(what, Shelves.state(m), Shelves.state(slow));
        }
    }

    private static void firstOfThese() {
        Due.by("Terms", "Refused, and nothing changes, the first of these: "
            + "BAD (a number is not as told, or there is no such thing), STATE (as told), FULL.");
        for (int q : Shelves.SIZES) {
            refused(q, "over", new int[] {0}, STATE);
            refused(q, "turn", new int[] {1}, STATE);
            refused(q, "order", new int[] {1}, STATE);
            refused(q, "turn", new int[] {4}, BAD);
            refused(q, "order", new int[] {-1}, BAD);
        }
        for (int q : Shelves.ODD) {
            refused(q, "linear", new int[] {0}, STATE);
            refused(q, "linear", new int[] {4}, BAD);
            refused(q, "walk", new int[] {0, 0, 0}, NO);
        }
        for (int q : new int[] {9, 11, 13, 16}) {
            refused(q, "many", new int[] {5}, FULL);
            refused(q, "many", new int[] {6}, BAD);
            refused(q, "pick", new int[] {0, 5, 0}, FULL);
            refused(q, "pick", new int[] {0, 5, Integer.MAX_VALUE}, FULL);
            refused(q, "pick", new int[] {4, 5, 0}, BAD);
            refused(q, "pick", new int[] {0, 6, 0}, BAD);
            refused(q, "pick", new int[] {0, 5, -1}, BAD);
            refused(q, "pick", new int[] {0, 1, 1}, BAD);
        }
    }
}
