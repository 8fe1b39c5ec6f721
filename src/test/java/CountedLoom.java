import java.lang.reflect.InvocationTargetException;
import java.lang.reflect.Method;
import java.util.Arrays;
import java.util.HashMap;
import java.util.Map;

/** A loom that is called by name, and that holds a test to the calls for which a loom is promised. */
final class CountedLoom {
    private static final int MOST_CALLS = 512;
    private static final int PIECE = 40;
    private static final Map<String, Method> FACE = face();

    private final TextLoom loom = new TextLoom();
    private int calls = 0;

    /** A text is written in pieces through the scrap, so that a long one takes few calls. */
    CountedLoom(String text, String scrap) {
        String noted = "";
        for (int from = 0; from < text.length(); from += PIECE) {
            String piece = text.substring(from, Math.min(from + PIECE, text.length()));
            if (!piece.equals(noted)) {
                call("drop");
                note(piece);
                noted = piece;
            }
            call("add", 2, 0);
        }
        if (!noted.isEmpty()) {
            call("drop");
        }
        note(scrap);
    }

    int call(String name, Object... args) {
        calls++;
        if (calls > MOST_CALLS) {
            throw new IllegalStateException("the test calls a loom more than " + MOST_CALLS + " times");
        }
        try {
            return (int) FACE.get(name).invoke(loom, args);
        } catch (InvocationTargetException thrown) {
            throw new IllegalStateException(shown(name, args) + " threw " + thrown.getCause(), thrown);
        } catch (IllegalAccessException unreachable) {
            throw new IllegalStateException(shown(name, args) + " can't be called", unreachable);
        }
    }

    static String shown(String name, Object... args) {
        String list = Arrays.toString(args);
        return name + "(" + list.substring(1, list.length() - 1) + ")";
    }

    private void note(String signs) {
        for (int k = 0; k < signs.length(); k++) {
            call("note", (int) signs.charAt(k));
        }
    }

    private static Map<String, Method> face() {
        Map<String, Method> face = new HashMap<>();
        for (Method method : TextLoom.class.getMethods()) {
            if (method.getDeclaringClass() == TextLoom.class) {
                face.put(method.getName(), method);
            }
        }
        return face;
    }
}
