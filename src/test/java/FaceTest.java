import java.lang.reflect.Constructor;
import java.lang.reflect.Field;
import java.lang.reflect.Method;
import java.lang.reflect.Modifier;
import java.util.Set;
import java.util.TreeSet;

/** The class shows the document's face and nothing beside it. */
public final class FaceTest {
    private static int wrong = 0;

    private static final String[] METHODS = {
        "type 1", "clear 0", "wires 0", "frames 0", "cuts 1", "heals 1", "cycles 1", "resets 1", "sets 3",
        "drifts 2", "measures 0", "undo 0", "drive 2", "link 2", "order 2", "result 2", "time 1", "reached 1",
        "would 1", "sees 2", "forget 0", "which 1", "ask 0", "keep 1", "back 1", "count 1"
    };

    private static void due(String what, Object got, Object want) {
        if (!got.equals(want)) {
            wrong++;
            System.out.println(what + ": is " + got + ", due is " + want);
        }
    }

    public static void main(String[] args) throws Exception {
        due("public", Modifier.isPublic(RingFrames.class.getModifiers()), true);
        due("final", Modifier.isFinal(RingFrames.class.getModifiers()), true);
        constants();
        constructors();
        methods();
        if (wrong != 0) {
            System.exit(1);
        }
    }

    private static void constants() throws Exception {
        Set<String> shown = new TreeSet<>();
        for (Field field : RingFrames.class.getDeclaredFields()) {
            if (!Modifier.isPrivate(field.getModifiers())) {
                shown.add(field.getName() + " " + Modifier.toString(field.getModifiers()) + " " + field.get(null));
            }
        }
        due("constants", shown, new TreeSet<>(Set.of("BAD public static final -1", "STATE public static final -2",
            "FULL public static final -3", "NONE public static final -9", "NO public static final -1000000")));
    }

    private static void constructors() {
        Constructor<?>[] made = RingFrames.class.getDeclaredConstructors();
        due("constructors", made.length, 1);
        due("the constructor's parameters", made[0].getParameterCount(), 0);
        due("the constructor is public", Modifier.isPublic(made[0].getModifiers()), true);
    }

    private static void methods() {
        Set<String> shown = new TreeSet<>();
        for (Method method : RingFrames.class.getDeclaredMethods()) {
            if (Modifier.isPrivate(method.getModifiers()) || method.isSynthetic()) {
                continue;
            }
            shown.add(method.getName() + " " + method.getParameterCount());
            due(method.getName() + " is public", Modifier.isPublic(method.getModifiers()), true);
            due(method.getName() + " answers", method.getReturnType(), int.class);
            for (Class<?> parameter : method.getParameterTypes()) {
                due(method.getName() + " takes", parameter, int.class);
            }
        }
        due("methods", shown, new TreeSet<>(Set.of(METHODS)));
    }
}
