import java.lang.reflect.Constructor;
import java.lang.reflect.Field;
import java.lang.reflect.Method;
import java.lang.reflect.Modifier;
import java.util.Arrays;
import java.util.Set;
import java.util.TreeSet;

/** The public face is the document's, with nothing beside it that another class could reach. */
public final class FaceTest {
    private static final Set<String> FACE = new TreeSet<>(Arrays.asList(
            "TextLoom()", "note(int)", "drop()", "add(int, long)", "insert(int, boolean, long)",
            "cut(int, int)", "swap(int, int)", "take(int)", "set(int, int)", "get(int)", "turn()",
            "find(int, boolean)", "length(int)", "lift(int, int)", "look(int)", "scrap(int)", "compare()"));

    private static final Checks checks = new Checks();

    public static void main(String[] args) {
        checks.about("the face");
        checks.due("modifiers", Modifier.toString(TextLoom.class.getModifiers()), "public final");
        checks.due("constructors and methods", reachable(), FACE);
        for (Field field : TextLoom.class.getDeclaredFields()) {
            checks.due("private " + field.getName(), Modifier.isPrivate(field.getModifiers()), true);
            if (Modifier.isStatic(field.getModifiers())) {
                checks.due("final " + field.getName(), Modifier.isFinal(field.getModifiers()), true);
            }
        }
        for (Method method : TextLoom.class.getDeclaredMethods()) {
            checks.due("no private namesake of " + method.getName(),
                    Modifier.isPrivate(method.getModifiers()) && isFaceName(method.getName()), false);
        }
        checks.end();
    }

    private static Set<String> reachable() {
        Set<String> found = new TreeSet<>();
        for (Constructor<?> maker : TextLoom.class.getDeclaredConstructors()) {
            checks.due("public constructor", Modifier.isPublic(maker.getModifiers()), true);
            found.add(signature("TextLoom", maker.getParameterTypes()));
        }
        for (Method method : TextLoom.class.getDeclaredMethods()) {
            if (!Modifier.isPrivate(method.getModifiers())) {
                checks.due("modifiers of " + method.getName(),
                        Modifier.toString(method.getModifiers()), "public");
                checks.due("answer of " + method.getName(), method.getReturnType(), int.class);
                found.add(signature(method.getName(), method.getParameterTypes()));
            }
        }
        return found;
    }

    private static String signature(String name, Class<?>[] types) {
        String list = Arrays.toString(types);
        return name + "(" + list.substring(1, list.length() - 1) + ")";
    }

    private static boolean isFaceName(String name) {
        return FACE.stream().anyMatch(signature -> signature.startsWith(name + "("));
    }
}
