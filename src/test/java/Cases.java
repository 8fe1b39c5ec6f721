import java.lang.reflect.InvocationTargetException;
import java.lang.reflect.Method;
import java.lang.reflect.Modifier;
import java.util.Arrays;
import java.util.Comparator;

/**
 * Runs the cases of a test class, and says of each by its name whether it holds. A case is a static
 * method named for its promise and its case, as promise06_cut_toBeyondTheEndIsTheEnd; it is found by
 * its name, so that none that is written is left out.
 */
final class Cases {
    static final Checks CHECKS = new Checks();

    private Cases() {
    }

    static void runAll(Class<?> holder) {
        Method[] cases = Arrays.stream(holder.getDeclaredMethods())
                .filter(Cases::isCase)
                .sorted(Comparator.comparing(Method::getName))
                .toArray(Method[]::new);
        for (Method each : cases) {
            runOne(each);
        }
        System.out.println(cases.length + " cases");
        CHECKS.end();
    }

    private static boolean isCase(Method method) {
        return Modifier.isStatic(method.getModifiers())
                && (method.getName().startsWith("promise") || method.getName().startsWith("terms"));
    }

    private static void runOne(Method method) {
        int askedBefore = CHECKS.asked();
        int wrongBefore = CHECKS.wrong();
        CHECKS.about(method.getName());
        try {
            method.invoke(null);
        } catch (InvocationTargetException thrown) {
            CHECKS.due("the case", thrown.getCause(), "nothing thrown");
        } catch (IllegalAccessException unreachable) {
            CHECKS.due("the case", unreachable, "a case that can be called");
        }
        CHECKS.due("something asked", CHECKS.asked() > askedBefore, true);
        System.out.println((CHECKS.wrong() == wrongBefore ? "holds: " : "FAILS: ") + method.getName());
    }
}
