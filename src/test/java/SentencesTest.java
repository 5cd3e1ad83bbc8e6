import java.io.IOException;

/** Each sentence of the document that names an edge or a refusal, by tests of its own. */
final class SentencesTest {
    private SentencesTest() {
    }

    public static void main(String[] args) throws IOException {
        CallSentences.all();
        FieldSentences.all();
        MapSentences.all();
        RecipeSentences.all();
        ShuffleSentences.all();
        DifferenceSentences.all();
        DressSentences.all();
        DegreeSentences.all();
        Refusals.all();
        Document.hold(Due.sentences());
        System.out.println(Due.sentences().size() + " sentences");
        Due.end();
    }
}
