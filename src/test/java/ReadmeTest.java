import java.io.IOException;
import java.nio.file.Files;
import java.nio.file.Path;
import java.util.regex.Matcher;
import java.util.regex.Pattern;

/** The answers that README.md tells are those that the calls give, line by line. */
public final class ReadmeTest {
    private static final Pattern LINE = Pattern.compile("minds\\.(\\w+)\\(([^)]*)\\);\\s+// (true|false|-?\\d+)(:.*)?");

    private ReadmeTest() { }

    public static void main(String[] args) throws IOException {
        LentMinds minds = null;
        int lines = 0;
        for (String line : Files.readAllLines(Path.of("README.md"))) {
            Matcher told = Pattern.compile("tell\\(minds, \"([^\"]*)\"\\);\\s+// (\\d+)").matcher(line);
            Matcher call = LINE.matcher(line);
            if (told.matches()) {
                minds = new LentMinds();
                Checks.due(line, Checks.tell(minds, told.group(1)), Integer.valueOf(told.group(2)));
            } else if (call.matches() && minds != null) {
                lines++;
                Checks.due(line, answer(minds, call.group(1), call.group(2)), call.group(3));
            }
        }
        Checks.due("lines with an answer", lines, 16);
        Checks.end("ReadmeTest");
    }

    private static String answer(LentMinds minds, String name, String numbers) {
        String[] told = numbers.isEmpty() ? new String[0] : numbers.split(", ");
        Object[] given = new Object[told.length];
        Class<?>[] types = new Class<?>[told.length];
        for (int i = 0; i < told.length; i++) {
            given[i] = Integer.valueOf(told[i]);
            types[i] = int.class;
        }
        try {
            return String.valueOf(LentMinds.class.getMethod(name, types).invoke(minds, given));
        } catch (ReflectiveOperationException e) {
            return e.toString();
        }
    }
}
