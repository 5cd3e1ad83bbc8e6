import java.util.ArrayList;
import java.util.List;

/** Counts and prints the answers that are not as due. */
final class Due {
    private static final int MOST_PRINTED = 50, MOST_PRINTED_BY_ONE = 5;
    private static final List<String[]> SENTENCES = new ArrayList<>();
    private static int wrong = 0;
    private static int wrongByThis = 0;
    private static long looked = 0;
    private static long lookedBefore = 0;
    private static String by = "";

    private Due() {
    }

    /** The answers that follow are due by this sentence, which stands in that section of the document. */
    static void by(String section, String sentence) {
        endSentence();
        SENTENCES.add(new String[] {section, sentence});
        begin("[" + section + ": " + sentence + "] ");
    }

    /** The answers that follow are due by no one sentence. */
    static void byNone() {
        endSentence();
        begin("");
    }

    private static void begin(String label) {
        by = label;
        lookedBefore = looked;
        wrongByThis = 0;
    }

    /** Sections and sentences, in the order in which they were named. */
    static List<String[]> sentences() {
        return SENTENCES;
    }

    private static void endSentence() {
        if (!by.isEmpty() && looked == lookedBefore) {
            isTrue("has no test", false);
        }
    }

    static void is(String call, long got, long want) {
        looked++;
        if (got != want) {
            wrong++;
            wrongByThis++;
            // One broken sentence does not crowd out the others.
            if (wrongByThis <= (by.isEmpty() ? MOST_PRINTED : MOST_PRINTED_BY_ONE)) {
                System.out.println(by + call + " answered " + got + ", due is " + want);
            }
        }
    }

    static void isTrue(String what, boolean holds) {
        is(what, holds ? 1 : 0, 1);
    }

    static void isText(String what, String got, String want) {
        isTrue(what + ": " + got + ", due is " + want, got.equals(want));
    }

    static void end() {
        endSentence();
        String all = looked + " answers are ";
        System.out.println(wrong == 0 ? all + "as due" : wrong + " of " + all + "not as due");
        if (wrong != 0) {
            System.exit(1);
        }
    }
}
