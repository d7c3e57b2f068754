import java.lang.reflect.Constructor;
import java.lang.reflect.Field;
import java.lang.reflect.Method;
import java.lang.reflect.Modifier;
import java.util.ArrayList;
import java.util.Arrays;
import java.util.List;
import java.util.TreeSet;

/** The public face of the document, and nothing else that can be seen from outside. */
public final class FaceTest extends LobbyTest {
    private static final String[] METHODS = {
        "int addPlayer(int, int) IllegalArgumentException, IllegalStateException",
        "int queue(int) IllegalArgumentException, IllegalStateException",
        "int leave(int) IndexOutOfBoundsException, IllegalStateException",
        "int players()",
        "int state(int) IndexOutOfBoundsException",
        "int rating(int) IndexOutOfBoundsException",
        "int uncertainty(int) IndexOutOfBoundsException",
        "int level(int) IndexOutOfBoundsException",
        "int barred(int) IndexOutOfBoundsException",
        "int queued()",
        "int window(int) IndexOutOfBoundsException, IllegalStateException",
        "boolean fit(int, int) IndexOutOfBoundsException, IllegalStateException",
        "int make()",
        "boolean accept(int, int) IndexOutOfBoundsException, IllegalStateException",
        "int decline(int, int) IndexOutOfBoundsException, IllegalStateException",
        "void finish(int, int) IndexOutOfBoundsException, IllegalArgumentException, IllegalStateException",
        "int matches()",
        "int matchState(int) IndexOutOfBoundsException",
        "int team(int, int) IndexOutOfBoundsException, IllegalArgumentException",
        "int unevenness(int) IndexOutOfBoundsException",
        "int pass(int) IllegalArgumentException, IllegalStateException",
        "int clock()",
    };

    private static final String[] CONSTANTS = {
        "NONE = -1", "IDLE = 0", "QUEUING = 1", "IN_MATCH = 2", "MADE = 0", "ON = 1", "OFF = 2", "FINISHED = 3",
    };

    private static String names(Class<?>[] classes) {
        List<String> names = new ArrayList<>();
        for (Class<?> c : classes) {
            names.add(c.getSimpleName());
        }
        return String.join(", ", names);
    }

    private static void methods() {
        TreeSet<String> got = new TreeSet<>();
        TreeSet<String> open = new TreeSet<>();
        for (Method m : LobbyMaker.class.getDeclaredMethods()) {
            if (Modifier.isPublic(m.getModifiers())) {
                String thrown = names(m.getExceptionTypes());
                got.add((m.getReturnType() + " " + m.getName() + "(" + names(m.getParameterTypes()) + ") " + thrown).trim());
                due(m.getName() + " is of the object", Modifier.isStatic(m.getModifiers()), false);
                open.add(m.getName());
            }
        }
        due("public methods", got, new TreeSet<>(Arrays.asList(METHODS)));
        for (Method m : LobbyMaker.class.getDeclaredMethods()) {
            if (!Modifier.isPublic(m.getModifiers())) {
                due(m.getName() + " is private", Modifier.isPrivate(m.getModifiers()), true);
                due(m.getName() + " bears the name of a public method", open.contains(m.getName()), false);
            }
        }
    }

    private static void fields() throws IllegalAccessException {
        TreeSet<String> got = new TreeSet<>();
        for (Field f : LobbyMaker.class.getDeclaredFields()) {
            int modifiers = f.getModifiers();
            if (Modifier.isPublic(modifiers)) {
                got.add(f.getName() + " = " + f.get(null));
                due(f.getName() + " is an int", f.getType(), int.class);
            } else {
                due(f.getName() + " is private", Modifier.isPrivate(modifiers), true);
            }
            if (Modifier.isStatic(modifiers)) {
                due(f.getName() + " is final", Modifier.isFinal(modifiers), true);
            }
        }
        due("public constants", got, new TreeSet<>(Arrays.asList(CONSTANTS)));
    }

    public static void main(String[] args) throws IllegalAccessException {
        Class<LobbyMaker> face = LobbyMaker.class;
        due("modifiers", face.getModifiers(), Modifier.PUBLIC | Modifier.FINAL);
        due("superclass", face.getSuperclass(), Object.class);
        due("interfaces", face.getInterfaces().length, 0);
        due("package", face.getPackageName(), "");
        due("constructors", face.getDeclaredConstructors().length, 1);
        for (Constructor<?> c : face.getDeclaredConstructors()) {
            due("constructor", c.toString(), "public LobbyMaker()");
        }
        for (Class<?> inside : face.getDeclaredClasses()) {
            int modifiers = inside.getModifiers();
            boolean hidden = !Modifier.isPublic(modifiers) && !Modifier.isProtected(modifiers);
            due(inside.getSimpleName() + " is hidden and static", hidden && Modifier.isStatic(modifiers), true);
        }
        methods();
        fields();
        end("the face is as due", "parts of the face are not as due");
    }
}
