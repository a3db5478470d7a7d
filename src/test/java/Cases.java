import java.lang.reflect.InvocationTargetException;
import java.lang.reflect.Method;
import java.lang.reflect.Modifier;
import java.util.Arrays;
import java.util.Comparator;

/**
 * Runs the cases of a test each on its own, and tells them by name. A case is a static method
 * without parameters that is not private; a case that looks at no answer counts as failed.
 */
final class Cases {
    private Cases() {
    }

    static void run(Class<?> test) throws IllegalAccessException {
        Method[] methods = test.getDeclaredMethods();
        Arrays.sort(methods, Comparator.comparing(Method::getName));
        for (Method method : methods) {
            if (isCase(method)) {
                runOne(method);
            }
        }
        Check.end();
    }

    private static boolean isCase(Method method) {
        int modifiers = method.getModifiers();
        return Modifier.isStatic(modifiers) && !Modifier.isPrivate(modifiers)
                && !method.isSynthetic() && method.getParameterCount() == 0;
    }

    private static void runOne(Method method) throws IllegalAccessException {
        int wrongBefore = Check.wrongSoFar();
        int lookedBefore = Check.lookedSoFar();
        try {
            method.invoke(null);
        } catch (InvocationTargetException thrown) {
            Check.wrong("threw " + thrown.getCause());
        }
        if (Check.lookedSoFar() == lookedBefore) {
            Check.wrong("looked at no answer");
        }
        String verdict = Check.wrongSoFar() == wrongBefore ? "ok     " : "FAILED ";
        String promise = method.getDeclaringClass().getSimpleName().replace("EdgesTest", "");
        System.out.println(verdict + promise + ": " + method.getName());
    }
}
