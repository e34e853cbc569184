import java.lang.reflect.Constructor;
import java.lang.reflect.Field;
import java.lang.reflect.Method;
import java.lang.reflect.Modifier;
import java.util.Arrays;
import java.util.Set;
import java.util.TreeSet;

/** The public face is the document's, with nothing more that can be seen from outside. */
public final class FaceTest {
    private static final Set<String> METHODS = new TreeSet<>(Arrays.asList(
        "int feed(int, int, int, int, int)",
        "int end(int)",
        "int program()",
        "int write(int, int, int)",
        "long read(int, int, int, boolean)",
        "int assure(int, int, boolean)",
        "int commit(int)",
        "int meet(int, int, int)",
        "int forget(int, int)",
        "long cell(int, int, boolean)",
        "int order(int, int)",
        "int outcome(int, int)",
        "int look(int, int)",
        "int stamp(int, int, int)",
        "int count(int, int)",
        "int writes()"));

    public static void main(String[] args) {
        Class<DriftStore> face = DriftStore.class;
        Check.holds("public", Modifier.isPublic(face.getModifiers()));
        Check.holds("final", Modifier.isFinal(face.getModifiers()));
        methods(face);
        fields(face);
        constructors(face);
        classesInside(face);
        Check.finish("FaceTest");
    }

    private static void methods(Class<?> face) {
        Set<String> seen = new TreeSet<>();
        for (Method method : face.getDeclaredMethods()) {
            if (!Modifier.isPrivate(method.getModifiers())) {
                Check.holds(method + " is public", Modifier.isPublic(method.getModifiers()));
                seen.add(told(method));
            }
        }
        Check.holds("the methods are " + seen, seen.equals(METHODS));
    }

    private static String told(Method method) {
        String[] types = Arrays.stream(method.getParameterTypes()).map(Class::getName).toArray(String[]::new);
        return method.getReturnType().getName() + " " + method.getName() + "(" + String.join(", ", types) + ")";
    }

    private static void fields(Class<?> face) {
        Set<String> seen = new TreeSet<>();
        for (Field field : face.getDeclaredFields()) {
            if (!Modifier.isPrivate(field.getModifiers())) {
                int all = Modifier.PUBLIC | Modifier.STATIC | Modifier.FINAL;
                Check.due(field + " is a constant", field.getModifiers() & all, all);
                seen.add(field.getType().getName() + " " + field.getName());
            }
        }
        Set<String> want = new TreeSet<>(Arrays.asList("int REFUSED", "int NONE", "int FULL", "int DENIED"));
        Check.holds("the constants are " + seen, seen.equals(want));
    }

    private static void constructors(Class<?> face) {
        Constructor<?>[] all = face.getDeclaredConstructors();
        Check.due("one constructor", all.length, 1);
        Check.due("without parameters", all[0].getParameterCount(), 0);
        Check.holds("public", Modifier.isPublic(all[0].getModifiers()));
    }

    private static void classesInside(Class<?> face) {
        Set<String> names = new TreeSet<>();
        for (String method : METHODS) {
            names.add(method.substring(method.indexOf(' ') + 1, method.indexOf('(')));
        }
        Check.holds("at most twelve classes", face.getDeclaredClasses().length < 12);
        for (Class<?> inside : face.getDeclaredClasses()) {
            int modifiers = inside.getModifiers();
            Check.holds(inside + " is static", Modifier.isStatic(modifiers));
            Check.holds(inside + " is hidden", !Modifier.isPublic(modifiers) && !Modifier.isProtected(modifiers));
            for (Method method : inside.getDeclaredMethods()) {
                Check.holds(method + " has a name of its own", !names.contains(method.getName()));
                Check.holds(method + " has at most seven parameters", method.getParameterCount() <= 7);
            }
        }
    }
}
