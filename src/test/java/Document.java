import java.io.IOException;
import java.nio.file.Files;
import java.nio.file.Path;
import java.util.ArrayList;
import java.util.List;
import java.util.Map;
import java.util.TreeMap;

/** Holds the sentences that tests are named by against the document: each stands there, and none there is without one. */
final class Document {
    private static final Path PLACE = Path.of("../shared/DOC.md");

    private Document() {
    }

    static void hold(List<String[]> sentences) throws IOException {
        Due.byNone();
        if (!Files.isReadable(PLACE)) {
            System.out.println("no document at " + PLACE + ": the sentences are not held against it");
            return;
        }
        Map<String, String> sections = sections(Files.readString(PLACE));
        for (String[] named : sentences) {
            String text = sections.getOrDefault(named[0], "");
            Due.isTrue("stands in the document: " + named[0] + ": " + named[1], text.contains(named[1]));
        }
        for (Map.Entry<String, String> section : sections.entrySet()) {
            if (section.getKey().equals("Terms") || section.getKey().startsWith("Promise ")) {
                String left = without(section.getValue(), named(sentences, section.getKey()));
                Due.isTrue("has a test: " + section.getKey() + ": " + left, !left.matches(".*[A-Za-z].*"));
            }
        }
    }

    /** Texts by their headings, up to the colon; line ends, fences and rulers are left away. */
    private static Map<String, String> sections(String document) {
        Map<String, String> sections = new TreeMap<>();
        for (String part : document.split("\n## ")) {
            int end = part.indexOf('\n');
            String heading = part.substring(0, end).replaceAll(":.*", "");
            String text = part.substring(end).replaceAll("```\\w*|={4,}", " ").replaceAll("\\s+", " ");
            sections.put(heading, text);
        }
        return sections;
    }

    private static List<String> named(List<String[]> sentences, String section) {
        List<String> named = new ArrayList<>();
        for (String[] sentence : sentences) {
            if (sentence[0].equals(section)) {
                named.add(sentence[1]);
            }
        }
        named.sort((one, other) -> other.length() - one.length());
        return named;
    }

    private static String without(String text, List<String> named) {
        String left = text;
        for (String sentence : named) {
            left = left.replace(sentence, " ");
        }
        // The face itself is FaceTest's.
        left = left.replaceAll("Ahead of the calls .*? the interface says: ---- [^.]*\\.", " ");
        return left.replaceAll("`[^`]*\\(.*?\\)`:", " ").replaceAll("\\s+", " ");
    }
}
