import java.lang.reflect.Constructor;
import java.lang.reflect.Field;
import java.lang.reflect.Method;
import java.lang.reflect.Modifier;
import java.util.Set;
import java.util.TreeSet;

/** The public face, and rule 1 of LANGUAGE.md. */
public final class FaceTest {
    private static final Set<String> METHODS = Set.of(
        "int say(int)", "int wipe()", "int fault()", "int set()", "int bound(int)",
        "int announce(int,int,int,int)", "int withdraw(int,int,int)", "int pass(int)",
        "int route(int,int,int)", "int later(int,int,int)", "int when(int,int)", "int longest()",
        "int best(int,int)", "int record(int)", "int line(int,int)", "int count(int)",
        "int image(int)", "int restore(int)");
    private static final Set<String> CONSTANTS = Set.of(
        "UNKNOWN=-1", "OUTSIDE=-2", "STATE=-3", "FULL=-4", "NO=-5", "NONE=-6", "FAULT=-7");

    public static void main(String[] args) throws IllegalAccessException {
        Check.due("modifiers", Modifier.toString(FlapDamper.class.getModifiers()), "public final");
        checkMethods();
        checkConstants();
        checkConstructors();
        checkClassesInside();
        Check.end();
    }

    private static void checkMethods() {
        Set<String> open = new TreeSet<>();
        Set<String> names = new TreeSet<>();
        for (Method method : FlapDamper.class.getDeclaredMethods()) {
            if (!Modifier.isPrivate(method.getModifiers())) {
                open.add(signature(method));
                names.add(method.getName());
                Check.due(method + " is public and not static",
                    Modifier.toString(method.getModifiers()), "public");
            }
        }
        Check.due("methods", open.toString(), new TreeSet<>(METHODS).toString());
        for (Method method : FlapDamper.class.getDeclaredMethods()) {
            if (Modifier.isPrivate(method.getModifiers())) {
                Check.due(method + " bears a public name", names.contains(method.getName()) ? 1 : 0, 0);
            }
        }
        for (Class<?> inside : FlapDamper.class.getDeclaredClasses()) {
            for (Method method : inside.getDeclaredMethods()) {
                Check.due(method + " bears a public name", names.contains(method.getName()) ? 1 : 0, 0);
            }
        }
    }

    private static String signature(Method method) {
        StringBuilder text = new StringBuilder(method.getReturnType() + " " + method.getName() + "(");
        for (int i = 0; i < method.getParameterCount(); i++) {
            text.append(i == 0 ? "" : ",").append(method.getParameterTypes()[i]);
        }
        return text.append(")").toString();
    }

    private static void checkConstants() throws IllegalAccessException {
        Set<String> open = new TreeSet<>();
        for (Field field : FlapDamper.class.getDeclaredFields()) {
            if (!Modifier.isPrivate(field.getModifiers())) {
                open.add(field.getName() + "=" + field.getInt(null));
                Check.due(field.getName(), Modifier.toString(field.getModifiers()), "public static final");
            }
            if (Modifier.isStatic(field.getModifiers())) {
                Check.due(field + " is final", Modifier.isFinal(field.getModifiers()) ? 1 : 0, 1);
            }
        }
        Check.due("constants", open.toString(), new TreeSet<>(CONSTANTS).toString());
    }

    private static void checkConstructors() {
        Constructor<?>[] all = FlapDamper.class.getDeclaredConstructors();
        Check.due("constructors", all.length, 1);
        Check.due("its parameters", all[0].getParameterCount(), 0);
        Check.due("its modifiers", Modifier.toString(all[0].getModifiers()), "public");
    }

    private static void checkClassesInside() {
        for (Class<?> inside : FlapDamper.class.getDeclaredClasses()) {
            int modifiers = inside.getModifiers();
            Check.due(inside + " is static", Modifier.isStatic(modifiers) ? 1 : 0, 1);
            Check.due(inside + " is open", Modifier.isPublic(modifiers) || Modifier.isProtected(modifiers) ? 1 : 0, 0);
        }
    }
}
