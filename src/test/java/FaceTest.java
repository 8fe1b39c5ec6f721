import java.io.IOException;
import java.lang.reflect.Constructor;
import java.lang.reflect.Field;
import java.lang.reflect.Method;
import java.lang.reflect.Modifier;
import java.nio.file.Files;
import java.nio.file.Path;
import java.util.Set;
import java.util.TreeSet;
import java.util.regex.Matcher;
import java.util.regex.Pattern;

/** The face is the one that the document shows, with nothing beside it that another class could reach. */
public final class FaceTest {
    private static final Path DOCUMENT = Path.of("../shared/DOC.md");
    private static final Pattern SHOWN_FACE =
            Pattern.compile("## The public face\\s+```java\\s+(.*?)```", Pattern.DOTALL);
    private static final Pattern NAME_OF_PARAMETER = Pattern.compile(" \\w+(?=[,)])");
    private static final Class<?> LOOM = TextLoom.class;

    private static final Checks checks = new Checks();

    public static void main(String[] args) throws IOException {
        checks.about("the face");
        checks.due("what can be reached", reachable(), faceShownIn(Files.readString(DOCUMENT)));
        checks.due("package", LOOM.getPackageName(), "");
        checks.due("what it extends", LOOM.getSuperclass(), Object.class);
        checks.due("interfaces", LOOM.getInterfaces().length, 0);
        for (Method method : LOOM.getDeclaredMethods()) {
            checks.due("no private namesake of " + method.getName(),
                    Modifier.isPrivate(method.getModifiers()) && isPublicName(method.getName()), false);
        }
        for (Class<?> inside : LOOM.getDeclaredClasses()) {
            checks.due("static " + inside.getName(), Modifier.isStatic(inside.getModifiers()), true);
        }
        for (Field field : LOOM.getDeclaredFields()) {
            if (Modifier.isStatic(field.getModifiers())) {
                checks.due("final " + field.getName(), Modifier.isFinal(field.getModifiers()), true);
            }
        }
        checks.end();
    }

    /** A line for the class and for each member, as Java's own reflection writes it. */
    private static Set<String> faceShownIn(String document) {
        Set<String> face = new TreeSet<>();
        Matcher shown = SHOWN_FACE.matcher(document);
        if (shown.find()) {
            for (String line : shown.group(1).split("[;{}]")) {
                face.add(NAME_OF_PARAMETER.matcher(line).replaceAll("").replace(", ", ",").trim());
            }
        }
        face.remove("");
        return face;
    }

    private static Set<String> reachable() {
        Set<String> found = new TreeSet<>();
        found.add(LOOM.toGenericString());
        for (Constructor<?> maker : LOOM.getDeclaredConstructors()) {
            addUnlessPrivate(found, maker.getModifiers(), maker.toGenericString());
        }
        for (Method method : LOOM.getDeclaredMethods()) {
            addUnlessPrivate(found, method.getModifiers(), method.toGenericString());
        }
        for (Field field : LOOM.getDeclaredFields()) {
            addUnlessPrivate(found, field.getModifiers(), field.toGenericString());
        }
        for (Class<?> inside : LOOM.getDeclaredClasses()) {
            // Unlike other members, a class inside may be seen in its package.
            if ((inside.getModifiers() & (Modifier.PUBLIC | Modifier.PROTECTED)) != 0) {
                found.add(inside.toGenericString());
            }
        }
        return found;
    }

    private static void addUnlessPrivate(Set<String> found, int modifiers, String line) {
        if (!Modifier.isPrivate(modifiers)) {
            found.add(line.replace("TextLoom.", ""));
        }
    }

    private static boolean isPublicName(String name) {
        for (Method method : LOOM.getDeclaredMethods()) {
            if (Modifier.isPublic(method.getModifiers()) && method.getName().equals(name)) {
                return true;
            }
        }
        return false;
    }
}
