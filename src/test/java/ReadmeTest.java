import java.io.IOException;
import java.lang.reflect.Method;
import java.nio.file.DirectoryStream;
import java.nio.file.Files;
import java.nio.file.Path;
import java.util.Set;
import java.util.TreeSet;
import java.util.regex.Matcher;
import java.util.regex.Pattern;

/** What README.md shows is so: its calls, in their order, on one object; all of the face; all files of tests. */
final class ReadmeTest {
    private static final Path README = Path.of("README.md");
    private static final Path TESTS = Path.of("src/test/java");
    private static final Pattern CALL = Pattern.compile("m\\.(\\w+)\\(([^)]*)\\);\\s*// (-?\\d+|[A-Z]+)\\b.*");

    private ReadmeTest() {
    }

    public static void main(String[] args) throws IOException {
        String readme = Files.readString(README);
        everyCallIsShown(shown(readme));
        everyTestIsNamed(readme);
        Due.end();
    }

    /** The names of the calls that stand there, each of them done. */
    private static Set<String> shown(String readme) {
        Set<String> shown = new TreeSet<>();
        ShuffleMaps m = new ShuffleMaps();
        for (String line : readme.split("\n")) {
            Matcher call = CALL.matcher(line);
            if (call.matches()) {
                Due.is(line, Refusals.answer(m, call.group(1), numbers(call.group(2))), due(call.group(3)));
                shown.add(call.group(1));
            } else {
                Due.isTrue("a call with its answer: " + line, !line.startsWith("m."));
            }
        }
        return shown;
    }

    private static int[] numbers(String list) {
        String[] texts = list.isEmpty() ? new String[0] : list.split(", ");
        int[] numbers = new int[texts.length];
        for (int i = 0; i < texts.length; i++) {
            numbers[i] = Integer.parseInt(texts[i]);
        }
        return numbers;
    }

    private static long due(String answer) {
        switch (answer) {
            case "BAD": return Shelves.BAD;
            case "STATE": return Shelves.STATE;
            case "FULL": return Shelves.FULL;
            case "NONE": return Shelves.NONE;
            case "NO": return Shelves.NO;
            default: return Long.parseLong(answer);
        }
    }

    private static void everyCallIsShown(Set<String> shown) {
        for (Method method : ShuffleMaps.class.getDeclaredMethods()) {
            if (java.lang.reflect.Modifier.isPublic(method.getModifiers())) {
                Due.isTrue("shown with its answer: " + method.getName(), shown.contains(method.getName()));
            }
        }
    }

    private static void everyTestIsNamed(String readme) throws IOException {
        try (DirectoryStream<Path> files = Files.newDirectoryStream(TESTS, "*.java")) {
            for (Path file : files) {
                String name = file.getFileName().toString().replace(".java", "");
                Due.isTrue("named: " + name, readme.contains("`" + name + "`"));
            }
        }
    }
}
