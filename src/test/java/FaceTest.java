import java.io.IOException;
import java.lang.reflect.Field;
import java.lang.reflect.Method;
import java.lang.reflect.Modifier;
import java.nio.file.Files;
import java.nio.file.Path;
import java.util.Set;
import java.util.TreeSet;
import java.util.regex.Matcher;
import java.util.regex.Pattern;

/** The document's face and no other, and the words that LANGUAGE.md leaves out. */
final class FaceTest {
    private static final Path SOURCE = Path.of("src/main/java/ShuffleMaps.java");
    private static final String[] FACE = {
        "int field(int)", "int plus(int,int)", "int times(int,int)", "int over(int)", "int set(int,int,int)",
        "int at(int,int)", "int coefficient(int,int)", "int change(int,int,int)", "int degree(int)",
        "int make(int,int,int,int,int,int)", "int taste(int,int,int,int,int,int)", "int chain(int,int,int)",
        "int shuffles(int)", "int fails(int)", "int image(int)", "int turn(int)", "int order(int)", "int fixed(int)",
        "int difference(int,int,int)", "int spread(int)", "int planar(int)", "int walk(int,int,int)",
        "int linear(int)", "int like(int,int)", "int least(int)", "int many(int)", "int pick(int,int,int)",
        "int count(int)", "long trace()"};
    private static final String[] LEFT_OUT = {
        "throw", "throws", "try", "catch", "synchronized", "assert", "public static [^f]", "protected", "->", "::",
        "Exact\\(", "Random", "System\\.(?!arraycopy)", "Thread", "hashCode", "toString", "equals"};

    private FaceTest() {
    }

    public static void main(String[] args) throws IOException {
        publicMethods();
        members();
        namesOfInnerMethods();
        words(Files.readString(SOURCE));
        Due.end();
    }

    private static void publicMethods() {
        Set<String> found = new TreeSet<>();
        for (Method method : ShuffleMaps.class.getDeclaredMethods()) {
            if (!Modifier.isPrivate(method.getModifiers())) {
                Due.isTrue("public " + method, Modifier.isPublic(method.getModifiers()));
                StringBuilder text = new StringBuilder(method.getReturnType() + " " + method.getName() + "(");
                for (Class<?> type : method.getParameterTypes()) {
                    text.append(text.charAt(text.length() - 1) == '(' ? "" : ",").append(type);
                }
                found.add(text.append(")").toString());
            }
        }
        Set<String> due = new TreeSet<>(Set.of(FACE));
        Due.isTrue("the face is " + found, found.equals(due));
    }

    private static void members() {
        Due.isTrue("public", Modifier.isPublic(ShuffleMaps.class.getModifiers()));
        Due.isTrue("final", Modifier.isFinal(ShuffleMaps.class.getModifiers()));
        Due.is("constructors", ShuffleMaps.class.getDeclaredConstructors().length, 1);
        Due.is("public constructors", ShuffleMaps.class.getConstructors().length, 1);
        Due.is("public constants", ShuffleMaps.class.getFields().length, 5);
        for (Field field : ShuffleMaps.class.getDeclaredFields()) {
            int is = field.getModifiers();
            Due.isTrue("private or a constant: " + field, Modifier.isPrivate(is) || Modifier.isPublic(is));
            Due.isTrue("static is final: " + field, !Modifier.isStatic(is) || Modifier.isFinal(is));
        }
        for (Class<?> inner : ShuffleMaps.class.getDeclaredClasses()) {
            Due.isTrue("static: " + inner, Modifier.isStatic(inner.getModifiers()));
            Due.isTrue("not public: " + inner, !Modifier.isPublic(inner.getModifiers()));
        }
    }

    private static void namesOfInnerMethods() {
        Set<String> face = new TreeSet<>();
        for (Method method : ShuffleMaps.class.getMethods()) {
            face.add(method.getName());
        }
        for (Method method : ShuffleMaps.class.getDeclaredMethods()) {
            Due.isTrue("a name of the face: " + method,
                Modifier.isPublic(method.getModifiers()) || !face.contains(method.getName()));
            Due.isTrue("seven parameters: " + method, method.getParameterCount() <= 7);
        }
        for (Class<?> inner : ShuffleMaps.class.getDeclaredClasses()) {
            for (Method method : inner.getDeclaredMethods()) {
                Due.isTrue("a name of the face: " + method, !face.contains(method.getName()));
                Due.isTrue("seven parameters: " + method, method.getParameterCount() <= 7);
            }
        }
    }

    private static void words(String source) {
        String code = source.replaceAll("(?s)/\\*.*?\\*/", "").replaceAll("//[^\n]*", "");
        for (String word : LEFT_OUT) {
            String bounded = Character.isLetter(word.charAt(0)) ? "\\b" + word : word;
            bounded = word.matches("\\w+") ? bounded + "\\b" : bounded;
            Matcher matcher = Pattern.compile(bounded).matcher(code);
            Due.isTrue("left out: " + word, !matcher.find());
        }
        Due.is("imports", code.split("\nimport |^import ").length - 1, 1);
        Due.isTrue("signs 1 to 127", source.chars().allMatch(c -> c >= 1 && c <= 127));
    }
}
