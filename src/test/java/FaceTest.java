import java.lang.reflect.Constructor;
import java.lang.reflect.Field;
import java.lang.reflect.Method;
import java.lang.reflect.Modifier;
import java.util.Arrays;
import java.util.TreeSet;

/** The public face is that of the document to the letter, and shows nothing else. */
public final class FaceTest {
    private static final String INDEX = "IndexOutOfBoundsException";
    private static final String INDEX_ARGUMENT = INDEX + " IllegalArgumentException";
    private static final String INDEX_STATE = INDEX + " IllegalStateException";
    private static final String ALL = INDEX_ARGUMENT + " IllegalStateException";
    private static final String[] METHODS = {
        "observatory(int) IllegalArgumentException IllegalStateException",
        "plate(int, int) " + ALL,
        "dot(int, int, int) " + ALL,
        "shift(int, int) " + INDEX_ARGUMENT,
        "ofDot(int, int) " + INDEX_ARGUMENT,
        "body(int) " + INDEX_STATE,
        "link(int, int) " + INDEX_STATE,
        "unlink(int, int) " + INDEX_STATE,
        "join(int, int) " + INDEX_STATE,
        "part(int) " + INDEX_STATE,
        "number(int) " + INDEX_STATE,
        "ofBody(int, int) " + INDEX_ARGUMENT,
        "orbits(int) " + INDEX,
        "orbitsAnew(int) " + INDEX,
        "orbit(int, int, int) " + INDEX_ARGUMENT,
        "spread(int, int) " + INDEX_ARGUMENT,
        "where(int, int, int) " + INDEX_ARGUMENT,
        "candidates(int) " + INDEX,
        "chance(int, int, int, boolean) " + INDEX_ARGUMENT,
        "families(int) IllegalArgumentException",
        "family(int, int) " + INDEX_ARGUMENT,
        "turn(int, boolean) " + INDEX,
    };
    private static final Check check = new Check();

    public static void main(String[] args) {
        Class<?> face = PlanetoidDesk.class;
        check.due("the class", Modifier.toString(face.getModifiers()), "public final");
        check.due("its package", face.getPackageName(), "");
        check.due("the methods", methodsOf(face).toString(), new TreeSet<>(Arrays.asList(METHODS)).toString());
        check.due("the constructors", constructorsOf(face), "public PlanetoidDesk()");
        check.due("the constants", fieldsOf(face), "public static final int NONE ");
        membersOfClassesInside(face);
        check.end("FaceTest");
    }

    private static boolean isHidden(int modifiers) {
        return Modifier.isPrivate(modifiers);
    }

    private static TreeSet<String> methodsOf(Class<?> face) {
        TreeSet<String> found = new TreeSet<>();
        for (Method method : face.getDeclaredMethods()) {
            if (!isHidden(method.getModifiers()) && !method.isSynthetic()) {
                String row = method.getName() + names(", ", "(", ")", method.getParameterTypes())
                    + names(" ", " ", "", method.getExceptionTypes());
                boolean isPlain = method.getModifiers() == Modifier.PUBLIC && method.getReturnType() == int.class;
                found.add(isPlain ? row : "not public int: " + row);
            }
        }
        return found;
    }

    private static String names(String between, String before, String behind, Class<?>[] types) {
        String[] names = new String[types.length];
        for (int i = 0; i < types.length; i++) {
            names[i] = types[i].getSimpleName();
        }
        return before + String.join(between, names) + behind;
    }

    private static String constructorsOf(Class<?> face) {
        StringBuilder found = new StringBuilder();
        for (Constructor<?> constructor : face.getDeclaredConstructors()) {
            found.append(constructor);
        }
        return found.toString();
    }

    private static String fieldsOf(Class<?> face) {
        StringBuilder found = new StringBuilder();
        for (Field field : face.getDeclaredFields()) {
            if (!isHidden(field.getModifiers())) {
                String modifiers = Modifier.toString(field.getModifiers());
                found.append(modifiers).append(' ').append(field.getType()).append(' ').append(field.getName()).append(' ');
            }
        }
        return found.toString();
    }

    /** No method of the class's own bears the name of a public one, and no static field can change. */
    private static void membersOfClassesInside(Class<?> face) {
        String publicNames = " ";
        for (Method method : face.getMethods()) {
            publicNames += method.getDeclaringClass() == face ? method.getName() + " " : "";
        }
        for (Class<?> inside : face.getDeclaredClasses()) {
            boolean isStatic = Modifier.isStatic(inside.getModifiers());
            check.due("static " + inside.getName(), isStatic ? 1 : 0, 1);
            for (Method method : inside.getDeclaredMethods()) {
                boolean isOwn = !publicNames.contains(" " + method.getName() + " ");
                check.due("name of " + method, isOwn ? 1 : 0, 1);
            }
        }
        for (Method method : face.getDeclaredMethods()) {
            boolean isOwn = !isHidden(method.getModifiers()) || !publicNames.contains(" " + method.getName() + " ");
            check.due("name of " + method, isOwn ? 1 : 0, 1);
        }
        for (Field field : face.getDeclaredFields()) {
            int modifiers = field.getModifiers();
            check.due("state of " + field, !Modifier.isStatic(modifiers) || Modifier.isFinal(modifiers) ? 1 : 0, 1);
        }
    }
}
