import java.lang.reflect.Constructor;
import java.lang.reflect.Field;
import java.lang.reflect.Method;
import java.lang.reflect.Modifier;
import java.util.ArrayList;
import java.util.List;
import java.util.TreeSet;

/** The face is the document's, and nothing else of the class can be seen. */
public final class FaceTest {
    private static final String FACE = "feed5 house1 fault0 told1 body2 now2 costs2 pass1 mind0 bed2 minutes1 day1 "
        + "passing2 clear0 judge1 run4 best1 often1 taught4 pays3 trust2 answer4 can1 step2 round2 density1 stay1 "
        + "beds3 two1 alike2 spot2 placed1 back3 safe0 gone1 over0 image0 restore0 count1";

    private FaceTest() { }

    public static void main(String[] args) {
        Checks.due("final", Modifier.isFinal(LentMinds.class.getModifiers()), true);
        Checks.due("NONE", LentMinds.NONE, -1);
        methods();
        rest();
        Checks.end("FaceTest");
    }

    private static void methods() {
        TreeSet<String> seen = new TreeSet<>();
        TreeSet<String> names = new TreeSet<>();
        List<String> hidden = new ArrayList<>();
        for (Method m : LentMinds.class.getDeclaredMethods()) {
            if (Modifier.isPublic(m.getModifiers())) {
                seen.add(m.getName() + m.getParameterCount());
                names.add(m.getName());
            } else {
                Checks.due(m.getName() + " is private", Modifier.isPrivate(m.getModifiers()), true);
                hidden.add(m.getName());
            }
        }
        Checks.due("methods", seen, new TreeSet<>(List.of(FACE.split(" "))));
        for (String name : hidden) {
            Checks.due(name + " is no public name", names.contains(name), false);
        }
    }

    private static void rest() {
        for (Field f : LentMinds.class.getDeclaredFields()) {
            Checks.due(f.getName() + " can be seen", Modifier.isPublic(f.getModifiers()), f.getName().equals("NONE"));
            Checks.due(f.getName() + " is private", Modifier.isPrivate(f.getModifiers()), !f.getName().equals("NONE"));
        }
        Constructor<?>[] made = LentMinds.class.getDeclaredConstructors();
        Checks.due("constructors", made.length, 1);
        Checks.due("its parameters", made[0].getParameterCount(), 0);
        for (Class<?> c : LentMinds.class.getDeclaredClasses()) {
            Checks.due(c.getName() + " is static", Modifier.isStatic(c.getModifiers()), true);
            Checks.due(c.getName() + " is public", Modifier.isPublic(c.getModifiers()), false);
        }
    }
}
