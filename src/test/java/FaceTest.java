import java.lang.reflect.Constructor;
import java.lang.reflect.Field;
import java.lang.reflect.Method;
import java.lang.reflect.Modifier;
import java.util.Arrays;
import java.util.List;
import java.util.Set;
import java.util.TreeSet;

/** The public face is the document's, to the word, and nothing else of the class is to be seen. */
public final class FaceTest {
    private static final Due due = new Due("FaceTest");

    private static final List<String> METHODS = List.of("feed int", "house", "fault", "told int", "mirror int int", "doorOf int int",
        "person int", "sees int int", "step int", "greet int int", "steam int boolean", "door int boolean", "night", "envelope int",
        "walk int int", "drift int", "undo", "round int int", "cannot", "steps int", "mostSeen int", "learn", "steamed int int",
        "ask int int boolean", "changed int", "askNext", "called int", "write int int", "tear", "judge", "seed int", "keep int", "goBack int");

    public static void main(String[] args) {
        constants();
        methods();
        members();
        classesInside();
        due.end();
    }

    private static void constants() {
        due.is("NONE", GreetedMirrors.NONE, -1);
        due.is("UNKNOWN", GreetedMirrors.UNKNOWN, -1000000001);
        due.is("OUTSIDE", GreetedMirrors.OUTSIDE, -1000000002);
        due.is("NOT", GreetedMirrors.NOT, -1000000003);
        due.is("FULL", GreetedMirrors.FULL, -1000000004);
    }

    private static void methods() {
        Set<String> seen = new TreeSet<>();
        for (Method method : GreetedMirrors.class.getDeclaredMethods()) {
            if (!Modifier.isPrivate(method.getModifiers())) {
                StringBuilder told = new StringBuilder(method.getName());
                for (Class<?> type : method.getParameterTypes()) {
                    told.append(' ').append(type.getName());
                }
                seen.add(told.toString());
                due.is(told + " is public", Modifier.isPublic(method.getModifiers()) ? 1 : 0, 1);
                due.is(told + " is of an object", Modifier.isStatic(method.getModifiers()) ? 1 : 0, 0);
                due.is(told + " answers an int", method.getReturnType() == int.class ? 1 : 0, 1);
            }
        }
        due.same("the methods", seen.toString(), new TreeSet<>(METHODS).toString());
    }

    private static void members() {
        due.is("public final", GreetedMirrors.class.getModifiers() & (Modifier.PUBLIC | Modifier.FINAL), Modifier.PUBLIC | Modifier.FINAL);
        Set<String> open = new TreeSet<>();
        for (Field field : GreetedMirrors.class.getDeclaredFields()) {
            if (!Modifier.isPrivate(field.getModifiers())) {
                open.add(field.getName());
                due.is(field + " is a constant", field.getModifiers(), Modifier.PUBLIC | Modifier.STATIC | Modifier.FINAL);
            }
        }
        due.same("the constants", open.toString(), "[FULL, NONE, NOT, OUTSIDE, UNKNOWN]");
        Constructor<?>[] made = GreetedMirrors.class.getDeclaredConstructors();
        due.is("one constructor", made.length, 1);
        due.is("without arguments", made[0].getParameterCount(), 0);
        due.is("a public one", Modifier.isPublic(made[0].getModifiers()) ? 1 : 0, 1);
    }

    private static void classesInside() {
        List<Class<?>> inside = Arrays.asList(GreetedMirrors.class.getDeclaredClasses());
        due.is("some twelve classes at most", inside.size() + 1 <= 12 ? 1 : 0, 1);
        for (Class<?> type : inside) {
            due.is(type + " is static", Modifier.isStatic(type.getModifiers()) ? 1 : 0, 1);
            due.is(type + " is not open", type.getModifiers() & (Modifier.PUBLIC | Modifier.PROTECTED), 0);
            for (Method method : type.getDeclaredMethods()) {
                boolean alike = METHODS.stream().anyMatch(face -> face.split(" ")[0].equals(method.getName()));
                due.is(method + " bears the name of a public one", alike ? 1 : 0, 0);
            }
        }
        for (Class<?> type : inside) {
            long fields = Arrays.stream(type.getDeclaredFields()).filter(field -> !Modifier.isStatic(field.getModifiers())).count();
            due.is(type + " has some twenty fields at most", fields <= 20 ? 1 : 0, 1);
        }
    }
}
