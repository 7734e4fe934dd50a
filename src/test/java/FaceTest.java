import java.lang.reflect.Constructor;
import java.lang.reflect.Field;
import java.lang.reflect.Method;
import java.lang.reflect.Modifier;
import java.util.Arrays;
import java.util.Set;
import java.util.TreeSet;

/** The public face, as the document has it, and nothing else that is not private. */
public final class FaceTest {
    private static final String[] CONSTANTS = {
        "NO_SUCH=-1", "BAD_VALUE=-2", "BAD_TEXT=-3", "TOO_MANY=-4", "NOT_POSSIBLE=-5", "NONE=-6", "WALK=0", "TWIST=1",
        "LAY=2", "SPLICE=3", "OVERLAP=4", "TEST=5", "SHORTEST=6", "HOURS=7", "SPEED=8", "FINE=9"
    };
    private static final String[] METHODS = {
        "set 2", "fibre 3", "spin 2", "lay 4", "join 2", "test 1", "order 6", "fill 1", "drop 1", "pass 1", "piece 2",
        "ofOrder 2", "count 1", "account 2", "takes 5", "longest 3", "leastYarns 3", "wouldFill 2", "bestSet 1",
        "fewestJoined 2", "finesIn 1", "put 1", "wipe 0", "fault 0", "carryOut 0", "undo 0", "save 1", "restore 1"
    };

    public static void main(String[] args) throws IllegalAccessException {
        Due.is("the class is public and final", RopeWalk.class.getModifiers(), Modifier.PUBLIC | Modifier.FINAL);
        constants();
        methods();
        constructors();
        classesInside();
        Due.finish("FaceTest");
    }

    private static void constants() throws IllegalAccessException {
        Set<String> found = new TreeSet<>();
        for (Field field : RopeWalk.class.getDeclaredFields()) {
            int modifiers = field.getModifiers();
            if (Modifier.isPrivate(modifiers)) {
                continue;
            }
            Due.is(field.getName(), modifiers, Modifier.PUBLIC | Modifier.STATIC | Modifier.FINAL);
            Due.holds(field.getName() + " is an int", field.getType() == int.class);
            found.add(field.getName() + "=" + field.getInt(null));
        }
        Due.is("constants", found.toString(), new TreeSet<>(Arrays.asList(CONSTANTS)).toString());
    }

    private static void methods() {
        Set<String> found = new TreeSet<>();
        for (Method method : RopeWalk.class.getDeclaredMethods()) {
            if (Modifier.isPrivate(method.getModifiers())) {
                Due.holds(method.getName() + " bears no public name", !isPublicName(method.getName()));
                continue;
            }
            Due.is(method.getName(), method.getModifiers(), Modifier.PUBLIC);
            Due.holds(method.getName() + " answers an int", method.getReturnType() == int.class);
            for (Class<?> type : method.getParameterTypes()) {
                Due.holds(method.getName() + ": parameters", type == (method.getName().equals("put") ? long.class : int.class));
            }
            found.add(method.getName() + " " + method.getParameterCount());
        }
        Due.is("methods", found.toString(), new TreeSet<>(Arrays.asList(METHODS)).toString());
    }

    private static boolean isPublicName(String name) {
        return Arrays.stream(METHODS).anyMatch(method -> method.startsWith(name + " "));
    }

    private static void constructors() {
        Constructor<?>[] all = RopeWalk.class.getDeclaredConstructors();
        Due.is("constructors", all.length, 1);
        Due.is("it is public", all[0].getModifiers(), Modifier.PUBLIC);
        Due.is("it takes nothing", all[0].getParameterCount(), 0);
    }

    private static void classesInside() {
        Class<?>[] all = RopeWalk.class.getDeclaredClasses();
        Due.holds("some twelve classes at most", all.length < 12);
        for (Class<?> one : all) {
            Due.holds(one + " is static", Modifier.isStatic(one.getModifiers()));
            Due.holds(one + " is not public", !Modifier.isPublic(one.getModifiers()));
            long fields = Arrays.stream(one.getDeclaredFields()).filter(field -> !Modifier.isStatic(field.getModifiers())).count();
            Due.holds(one + " has some twenty fields at most", fields <= 20);
            for (Field field : one.getDeclaredFields()) {
                Due.holds(field + ": static and final", !Modifier.isStatic(field.getModifiers()) || Modifier.isFinal(field.getModifiers()));
            }
            for (Method method : one.getDeclaredMethods()) {
                Due.holds(method + " bears no public name", !isPublicName(method.getName()));
                Due.holds(method + " has seven parameters at most", method.getParameterCount() <= 7);
            }
        }
    }
}
