import java.lang.reflect.Constructor;
import java.lang.reflect.Field;
import java.lang.reflect.Method;
import java.lang.reflect.Modifier;
import java.util.ArrayList;
import java.util.List;
import java.util.TreeSet;

/** The face is the document's, and nothing else of the class can be seen. */
public final class FaceTest {
    private static final List<String> FACE = List.of(
        "int feed(int, int, int, int, int)",
        "int house(int) throws IllegalArgumentException",
        "int fault()",
        "int told(int) throws IllegalArgumentException",
        "int body(int, int) throws NoSuchElementException, IllegalArgumentException",
        "int now(int, int) throws NoSuchElementException, IllegalArgumentException",
        "int costs(int, int) throws NoSuchElementException",
        "int pass(int) throws NoSuchElementException",
        "int mind()",
        "boolean bed(int, boolean) throws NoSuchElementException",
        "int minutes(int) throws IllegalArgumentException, IllegalStateException",
        "int day(int) throws IllegalArgumentException",
        "int passing(int, int) throws NoSuchElementException, IllegalArgumentException",
        "int clear()",
        "int judge(int) throws IllegalArgumentException",
        "int run(int, int, int, int) throws IllegalArgumentException",
        "int best(int) throws IllegalArgumentException",
        "int often(int) throws IllegalArgumentException",
        "int taught(int, int, int, int) throws NoSuchElementException, IllegalArgumentException",
        "int pays(int, int, int) throws IllegalArgumentException",
        "int trust(int, int) throws NoSuchElementException, IllegalArgumentException",
        "boolean answer(int, int, int, int) throws NoSuchElementException, IllegalArgumentException",
        "boolean can(int) throws IllegalArgumentException",
        "int step(int, int) throws IllegalArgumentException",
        "int round(int, int) throws IllegalArgumentException",
        "int density(int) throws IllegalArgumentException",
        "int stay(int) throws NoSuchElementException",
        "int beds(int, int, int) throws NoSuchElementException, IllegalArgumentException",
        "int two(int) throws IllegalArgumentException",
        "int alike(int, int) throws IllegalArgumentException",
        "int spot(int, int) throws IllegalArgumentException",
        "int placed(int) throws IllegalArgumentException",
        "int back(int, int, int) throws IllegalArgumentException",
        "int safe()",
        "int gone(int) throws IllegalArgumentException",
        "int over()",
        "int image()",
        "int restore()",
        "int count(int)");

    private FaceTest() { }

    public static void main(String[] args) {
        Checks.due("final", Modifier.isFinal(LentMinds.class.getModifiers()), true);
        Checks.due("public", Modifier.isPublic(LentMinds.class.getModifiers()), true);
        Checks.due("NONE", LentMinds.NONE, -1);
        methods();
        rest();
        Checks.end("FaceTest");
    }

    private static void methods() {
        TreeSet<String> seen = new TreeSet<>();
        TreeSet<String> names = new TreeSet<>();
        List<String> hidden = new ArrayList<>();
        for (Method m : LentMinds.class.getDeclaredMethods()) {
            if (Modifier.isPublic(m.getModifiers())) {
                seen.add(written(m));
                names.add(m.getName());
            } else {
                Checks.due(m.getName() + " is private", Modifier.isPrivate(m.getModifiers()), true);
                hidden.add(m.getName());
            }
        }
        Checks.due("methods", seen, new TreeSet<>(FACE));
        for (String name : hidden) {
            Checks.due(name + " is no public name", names.contains(name), false);
        }
    }

    private static String written(Method m) {
        List<String> types = new ArrayList<>();
        for (Class<?> type : m.getParameterTypes()) {
            types.add(type.getSimpleName());
        }
        List<String> thrown = new ArrayList<>();
        for (Class<?> type : m.getExceptionTypes()) {
            thrown.add(type.getSimpleName());
        }
        return m.getReturnType().getSimpleName() + " " + m.getName() + "(" + String.join(", ", types) + ")"
            + (thrown.isEmpty() ? "" : " throws " + String.join(", ", thrown));
    }

    private static void rest() {
        for (Field f : LentMinds.class.getDeclaredFields()) {
            Checks.due(f.getName() + " can be seen", Modifier.isPublic(f.getModifiers()), f.getName().equals("NONE"));
            Checks.due(f.getName() + " is private", Modifier.isPrivate(f.getModifiers()), !f.getName().equals("NONE"));
        }
        Constructor<?>[] made = LentMinds.class.getDeclaredConstructors();
        Checks.due("constructors", made.length, 1);
        Checks.due("a public one", Modifier.isPublic(made[0].getModifiers()), true);
        Checks.due("its parameters", made[0].getParameterCount(), 0);
        for (Class<?> c : LentMinds.class.getDeclaredClasses()) {
            Checks.due(c.getName() + " is static", Modifier.isStatic(c.getModifiers()), true);
            Checks.due(c.getName() + " is public", Modifier.isPublic(c.getModifiers()), false);
        }
    }
}
