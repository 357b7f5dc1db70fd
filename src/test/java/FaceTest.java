import java.lang.reflect.Constructor;
import java.lang.reflect.Field;
import java.lang.reflect.Method;
import java.lang.reflect.Modifier;
import java.util.ArrayList;
import java.util.Collections;
import java.util.List;

/** The public face of the document, and nothing else that can be seen from outside. */
public final class FaceTest {
    private static final String METHODS = "[boolean interrupt(int), boolean keep(int,int), boolean start(int,int), "
        + "int cause(int,int,int), int cell(int,int), int count(int), int effect(int,int,int,int), int fiber(int,int), "
        + "int printed(int), int queued(int), int run(int)]";

    public static void main(String[] args) {
        Class<?> face = FiberDesk.class;
        Checks.named("the public face, the class", () -> theClass(face));
        Checks.named("the public face, methods and no more", () -> methods(face));
        Checks.named("the public face, one constructor", () -> constructors(face));
        Checks.named("the public face, constants and no more", () -> fields(face));
        Checks.named("the public face, values of the constants", FaceTest::constants);
        Checks.named("the classes inside", () -> classesInside(face));
        Checks.finish();
    }

    private static void theClass(Class<?> face) {
        Checks.due("public and final", Modifier.toString(face.getModifiers()), "public final");
        Checks.due("no package", face.getPackageName(), "");
    }

    private static void classesInside(Class<?> face) {
        for (Class<?> inside : face.getDeclaredClasses()) {
            Checks.due(inside + " is static", Modifier.isStatic(inside.getModifiers()), true);
            Checks.due(inside + " is public", Modifier.isPublic(inside.getModifiers()), false);
        }
    }

    private static void methods(Class<?> face) {
        List<String> seen = new ArrayList<>();
        List<String> hidden = new ArrayList<>();
        for (Method m : face.getDeclaredMethods()) {
            if (m.isSynthetic()) {
                continue;
            }
            if (Modifier.isPrivate(m.getModifiers())) {
                hidden.add(m.getName());
            } else {
                Checks.due(m.getName() + " is", Modifier.toString(m.getModifiers()), "public");
                seen.add(m.getReturnType() + " " + m.getName() + types(m.getParameterTypes()));
            }
        }
        Collections.sort(seen);
        Checks.due("methods", seen.toString(), METHODS);
        for (String name : hidden) {
            Checks.due("a public method named as the private " + name, METHODS.contains(" " + name + "("), false);
        }
    }

    private static String types(Class<?>[] types) {
        StringBuilder text = new StringBuilder("(");
        for (Class<?> type : types) {
            text.append(text.length() == 1 ? "" : ",").append(type);
        }
        return text.append(")").toString();
    }

    private static void constructors(Class<?> face) {
        Constructor<?>[] made = face.getDeclaredConstructors();
        Checks.due("constructors", made.length, 1);
        Checks.due("its parameters", made[0].getParameterCount(), 0);
        Checks.due("it is", Modifier.toString(made[0].getModifiers()), "public");
    }

    private static void fields(Class<?> face) {
        List<String> seen = new ArrayList<>();
        for (Field f : face.getDeclaredFields()) {
            if (!Modifier.isPrivate(f.getModifiers()) && !f.isSynthetic()) {
                seen.add(f.getName());
                Checks.due(f.getName() + " is", Modifier.toString(f.getModifiers()), "public static final");
            }
            if (Modifier.isStatic(f.getModifiers())) {
                Checks.due(f.getName() + " is final", Modifier.isFinal(f.getModifiers()), true);
            }
        }
        Collections.sort(seen);
        Checks.due("constants", seen.toString(), "[DONE, FULL, REFUSED, RUNNING, STUCK]");
    }

    private static void constants() {
        Checks.due("REFUSED", FiberDesk.REFUSED, -1);
        Checks.due("FULL", FiberDesk.FULL, -2);
        Checks.due("RUNNING", FiberDesk.RUNNING, 0);
        Checks.due("DONE", FiberDesk.DONE, 1);
        Checks.due("STUCK", FiberDesk.STUCK, 2);
    }
}
