import java.io.IOException;
import java.lang.reflect.Field;
import java.lang.reflect.Method;
import java.lang.reflect.Modifier;
import java.nio.file.Files;
import java.nio.file.Path;
import java.util.ArrayList;
import java.util.HashSet;
import java.util.List;
import java.util.Set;
import java.util.regex.Matcher;
import java.util.regex.Pattern;

/** The rules of LANGUAGE.md that the text and the shape of the class show. */
public final class LanguageTest {
    private static final Set<String> LIBRARY = Set.of("Math.max", "Math.min", "Math.abs", "Integer.bitCount",
        "Arrays.fill", "System.arraycopy", "Word.values");
    private static final Set<String> THROWN = Set.of("IllegalArgumentException", "IllegalStateException",
        "NoSuchElementException");

    private LanguageTest() { }

    public static void main(String[] args) throws IOException {
        String source = Files.readString(Path.of("src/main/java/LentMinds.java"));
        String code = bare(source);
        wordsLeftOut(code);
        library(code);
        thrown(code);
        List<Class<?>> classes = new ArrayList<>(List.of(LentMinds.class.getDeclaredClasses()));
        classes.add(LentMinds.class);
        Checks.due("at most twelve classes", classes.size() <= 12, true);
        for (Class<?> c : classes) {
            shape(c);
        }
        lengths(source);
        Checks.end("LanguageTest");
    }

    /** The code without comments and written texts. */
    private static String bare(String source) {
        return source.replaceAll("(?s)/\\*.*?\\*/", " ").replaceAll("//[^\n]*", " ").replaceAll("\"[^\"\n]*\"", "\"\"");
    }

    private static void wordsLeftOut(String code) {
        for (String word : List.of("try", "catch", "finally", "synchronized", "assert", "package", "protected", "volatile",
                "native", "Thread", "Random", "Object", "hashCode", "toString", "NaN")) {
            Checks.due("word " + word, Pattern.compile("\\b" + word + "\\b").matcher(code).find(), false);
        }
        for (String sign : List.of("->", "::", "Exact(", "@", "static {", "[][]", "nanoTime", "currentTime")) {
            Checks.due("sign " + sign, code.contains(sign), false);
        }
        Checks.due("one public class", code.split("public (final )?class", -1).length, 2);
        Checks.due("no texts joined by +", Pattern.compile("\"\" *\\+|\\+ *\"\"").matcher(code).find(), false);
    }

    private static void library(String code) {
        Matcher imports = Pattern.compile("import ([\\w.]+);").matcher(code);
        List<String> imported = new ArrayList<>();
        while (imports.find()) {
            imported.add(imports.group(1));
        }
        Checks.due("imports", imported, List.of("java.util.Arrays", "java.util.NoSuchElementException"));
        Matcher calls = Pattern.compile("\\b([A-Z]\\w*\\.\\w+)\\(").matcher(code);
        while (calls.find()) {
            Checks.due(calls.group(1) + " is left", LIBRARY.contains(calls.group(1)), true);
        }
    }

    private static void thrown(String code) {
        Matcher throwing = Pattern.compile("\\bthrow\\b([^;]*);").matcher(code);
        Pattern written = Pattern.compile(" new (\\w+)\\((\"\")?\\)");
        while (throwing.find()) {
            Matcher made = written.matcher(throwing.group(1));
            Checks.due(throwing.group(), made.matches() && THROWN.contains(made.group(1)), true);
        }
    }

    private static void shape(Class<?> c) {
        int fields = 0;
        for (Field f : c.getDeclaredFields()) {
            boolean constant = Modifier.isStatic(f.getModifiers());
            fields += constant ? 0 : 1;
            Checks.due(c.getSimpleName() + "." + f.getName() + " is static and not final",
                constant && !Modifier.isFinal(f.getModifiers()), false);
        }
        Checks.due("at most twenty fields in " + c.getSimpleName(), fields <= 20, true);
        Set<String> face = new HashSet<>();
        for (Method m : LentMinds.class.getMethods()) {
            face.add(m.getName());
        }
        for (Method m : c.getDeclaredMethods()) {
            String name = c.getSimpleName() + "." + m.getName();
            Checks.due("at most seven parameters of " + name, m.getParameterCount() <= 7, true);
            boolean hides = Modifier.isPrivate(m.getModifiers()) && face.contains(m.getName());
            Checks.due(name + " is private and bears a public name", hides, false);
        }
    }

    /** A method ends where a line has its own closing brace alone, as deep as it began. */
    private static void lengths(String source) {
        String[] lines = source.split("\n");
        for (int i = 0; i < lines.length; i++) {
            Matcher head = Pattern.compile("( {4}| {8})[\\w][^=;]*\\) ?(throws [\\w, ]+)?\\{").matcher(lines[i]);
            if (!head.matches()) {
                continue;
            }
            int end = i;
            while (end < lines.length && !lines[end].equals(head.group(1) + "}")) {
                end++;
            }
            Checks.due("at most sixty lines in" + lines[i], end - i <= 60, true);
        }
    }
}
