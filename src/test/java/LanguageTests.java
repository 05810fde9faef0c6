import java.io.IOException;
import java.lang.reflect.Constructor;
import java.lang.reflect.Field;
import java.lang.reflect.Method;
import java.lang.reflect.Modifier;
import java.nio.file.Files;
import java.nio.file.Path;
import java.util.Arrays;
import java.util.Set;
import java.util.TreeSet;
import java.util.regex.Matcher;
import java.util.regex.Pattern;

/** The public face is the document's, and the file has no word that LANGUAGE.md rules out. */
public final class LanguageTests {
    private static final String FILE = "src/main/java/SortTransform.java";
    private static final String[] FACE = {
        "feed(long,int)", "fill(int,int)", "clear()", "octet(int)", "pack()", "packed(int)", "order(int)", "last(int)",
        "origin()", "rounds()", "start(int,int)", "steps(long,int,int)", "back(int)", "ring(int)", "symbol(int)",
        "code(int,int)", "bits()", "write()", "out(int)", "tape(long,int)", "take()", "spoil(int,int)", "cut(int)",
        "read()", "faultAt()", "check()"
    };
    private final Due due = new Due();

    public static void main(String[] args) throws IOException {
        LanguageTests tests = new LanguageTests();
        tests.face();
        tests.namesInside();
        tests.words();
        tests.due.end("LanguageTests");
    }

    private void face() {
        Set<String> open = new TreeSet<>();
        for (Method method : SortTransform.class.getDeclaredMethods()) {
            if (!Modifier.isPrivate(method.getModifiers()) && !method.isSynthetic()) {
                String types = Arrays.toString(method.getParameterTypes()).replaceAll("[\\[\\] ]", "");
                open.add(method.getName() + "(" + types + ")");
                due.isTrue(method + " is public", Modifier.isPublic(method.getModifiers()));
                due.isTrue(method + " answers an int", method.getReturnType() == int.class);
            }
        }
        due.isTrue("the face is " + open, open.equals(new TreeSet<>(Arrays.asList(FACE))));
        Set<String> constants = new TreeSet<>();
        for (Field field : SortTransform.class.getDeclaredFields()) {
            if (!Modifier.isPrivate(field.getModifiers())) {
                constants.add(field.getName());
            }
        }
        due.isTrue("the constants are " + constants, constants.equals(Set.of("BAD", "NONE", "FULL")));
        Constructor<?>[] constructors = SortTransform.class.getDeclaredConstructors();
        due.is("constructors", constructors.length, 1);
        due.isTrue("the class is final", Modifier.isFinal(SortTransform.class.getModifiers()));
    }

    private void namesInside() {
        Set<String> names = new TreeSet<>();
        for (String call : FACE) {
            names.add(call.substring(0, call.indexOf('(')));
        }
        Class<?>[] inside = SortTransform.class.getDeclaredClasses();
        due.isTrue("at most twelve classes", inside.length < 12);
        for (Class<?> one : inside) {
            due.isTrue(one + " is static", Modifier.isStatic(one.getModifiers()));
            int fields = 0;
            for (Field field : one.getDeclaredFields()) {
                fields += Modifier.isStatic(field.getModifiers()) ? 0 : 1;
            }
            due.isTrue(one + " has at most twenty fields", fields <= 20);
            for (Method method : one.getDeclaredMethods()) {
                due.isTrue(method + " bears a public one's name", !names.contains(method.getName()));
                due.isTrue(method + " takes at most seven", method.getParameterCount() <= 7);
            }
        }
    }

    private void words() throws IOException {
        String text = Files.readString(Path.of(FILE));
        String code = text.replaceAll("(?s)/\\*.*?\\*/", "").replaceAll("//[^\\n]*", "");
        String[] never = {"throw", "throws", "try", "catch", "finally", "synchronized", "assert", "package", "protected",
            "System.out", "->", "::", "Exact", "double", "float", "Random", "nanoTime", "currentTimeMillis"};
        for (String word : never) {
            boolean isWord = Character.isLetter(word.charAt(0));
            Matcher found = Pattern.compile(isWord ? "\\b" + Pattern.quote(word) + "\\b" : Pattern.quote(word)).matcher(code);
            due.isTrue("the file has no " + word, !found.find());
        }
        Matcher imports = Pattern.compile("import ([^;]+);").matcher(code);
        while (imports.find()) {
            due.isTrue("import of " + imports.group(1), imports.group(1).equals("java.util.Arrays"));
        }
        Matcher statics = Pattern.compile("static (?!final )\\w+ \\w+ *(=|;)").matcher(code);
        due.isTrue("every static field is final", !statics.find());
    }
}
