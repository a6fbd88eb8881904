import java.lang.reflect.Constructor;
import java.lang.reflect.Field;
import java.lang.reflect.Method;
import java.lang.reflect.Modifier;
import java.util.Arrays;
import java.util.List;
import java.util.TreeSet;
import java.util.stream.Collectors;

/** The public face of the document, member by member, and that nothing else of the class can be seen. */
public final class FaceTest {
    private static final String UNKNOWN = "IllegalArgumentException";
    private static final String OUTSIDE = "IndexOutOfBoundsException";
    private static final String STATE = "IllegalStateException";
    private static final String NO_ROOM = "UnsupportedOperationException";
    private static final String NOT_TOLD = "ArithmeticException";

    public static void main(String[] args) {
        Check.promise("face");
        Check.answers(true, () -> Modifier.isPublic(HydrantRows.class.getModifiers()));
        Check.answers(true, () -> Modifier.isFinal(HydrantRows.class.getModifiers()));
        Check.answers("", () -> HydrantRows.class.getPackageName());
        Check.answers(new TreeSet<>(due()), () -> visibleMethods());
        Check.answers("[HydrantRows()]", () -> visibleConstructors());
        Check.answers("[]", () -> visibleFields());
        Check.answers("[]", () -> privateNamesakes());
        for (Class<?> inside : HydrantRows.class.getDeclaredClasses()) {
            Check.answers(true, () -> Modifier.isStatic(inside.getModifiers()));
            Check.answers(false, () -> Modifier.isPublic(inside.getModifiers()));
            Check.answers(false, () -> Modifier.isProtected(inside.getModifiers()));
        }
        Check.end();
    }

    private static String face(String method, String... refusals) {
        return method + " " + Arrays.asList(refusals);
    }

    private static List<String> due() {
        return List.of(
            face("int hydrant(int, int, int, int)", UNKNOWN, OUTSIDE, NO_ROOM),
            face("void limit(int, int)", UNKNOWN, OUTSIDE),
            face("void allow(boolean)"),
            face("int test(int, int, int, int, int)", UNKNOWN, OUTSIDE, STATE, NO_ROOM),
            face("int flow(int, int, int)", UNKNOWN, OUTSIDE, STATE, NOT_TOLD),
            face("int sort(int)", UNKNOWN, STATE, NOT_TOLD),
            face("void defect(int, int)", UNKNOWN, OUTSIDE),
            face("void works(int, int, int)", UNKNOWN, OUTSIDE, STATE, NO_ROOM),
            face("void season(int, int, boolean)", UNKNOWN, OUTSIDE, STATE),
            face("boolean usable(int, int)", UNKNOWN, OUTSIDE),
            face("int near(int, int, int, int)", OUTSIDE),
            face("int both(int, int, int)", UNKNOWN, OUTSIDE, STATE, NOT_TOLD),
            face("int supply(int, int, int, int, int)", OUTSIDE),
            face("int round(long, int)", UNKNOWN, OUTSIDE),
            face("int stop(int)", OUTSIDE),
            face("int overdue(int, int, int)", OUTSIDE),
            face("int testAt(int, int)", UNKNOWN),
            face("int hydrantAt(int, int)", UNKNOWN));
    }

    private static String types(Class<?>[] classes) {
        return Arrays.stream(classes).map(Class::getSimpleName).collect(Collectors.joining(", "));
    }

    private static boolean isVisible(int modifiers) {
        return !Modifier.isPrivate(modifiers);
    }

    private static TreeSet<String> visibleMethods() {
        TreeSet<String> seen = new TreeSet<>();
        for (Method method : HydrantRows.class.getDeclaredMethods()) {
            if (isVisible(method.getModifiers())) {
                String hidden = Modifier.isPublic(method.getModifiers()) ? "" : "not public: ";
                seen.add(hidden + method.getReturnType().getSimpleName() + " " + method.getName()
                    + "(" + types(method.getParameterTypes()) + ") [" + types(method.getExceptionTypes()) + "]");
            }
        }
        return seen;
    }

    private static TreeSet<String> visibleConstructors() {
        TreeSet<String> seen = new TreeSet<>();
        for (Constructor<?> constructor : HydrantRows.class.getDeclaredConstructors()) {
            if (isVisible(constructor.getModifiers())) {
                seen.add(constructor.getName() + "(" + types(constructor.getParameterTypes()) + ")");
            }
        }
        return seen;
    }

    private static TreeSet<String> visibleFields() {
        TreeSet<String> seen = new TreeSet<>();
        for (Field field : HydrantRows.class.getDeclaredFields()) {
            if (isVisible(field.getModifiers())) {
                seen.add(field.getName());
            }
        }
        return seen;
    }

    /** Methods of the class or of those inside it that bear the name of a public one without being it. */
    private static TreeSet<String> privateNamesakes() {
        TreeSet<String> faceNames = new TreeSet<>();
        for (String method : due()) {
            faceNames.add(method.substring(method.indexOf(' ') + 1, method.indexOf('(')));
        }
        TreeSet<String> seen = new TreeSet<>();
        for (Method method : HydrantRows.class.getDeclaredMethods()) {
            if (Modifier.isPrivate(method.getModifiers()) && faceNames.contains(method.getName())) {
                seen.add(method.getName());
            }
        }
        for (Class<?> inside : HydrantRows.class.getDeclaredClasses()) {
            for (Method method : inside.getDeclaredMethods()) {
                if (faceNames.contains(method.getName())) {
                    seen.add(inside.getSimpleName() + "." + method.getName());
                }
            }
        }
        return seen;
    }
}
