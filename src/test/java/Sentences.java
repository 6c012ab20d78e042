import java.lang.reflect.InvocationTargetException;
import java.lang.reflect.Method;
import java.util.Arrays;
import java.util.Comparator;

/** Runs every method of a test that {@link Says} a sentence; each is a test by itself. */
final class Sentences {
    private Sentences() {
    }

    static void hold(Class<?> test) throws IllegalAccessException {
        Method[] methods = test.getDeclaredMethods();
        Arrays.sort(methods, Comparator.comparing(Method::getName));
        int ran = 0;
        for (Method method : methods) {
            Says says = method.getAnnotation(Says.class);
            if (says != null) {
                Check.at = method.getName() + " (promise " + says.promise() + ", \"" + says.words() + "\"): ";
                run(method);
                ran++;
            }
        }
        Check.at = "";
        Check.yes(test.getName() + " has sentences", ran > 0);
        Check.end();
    }

    private static void run(Method method) throws IllegalAccessException {
        try {
            method.invoke(null);
        } catch (InvocationTargetException broken) {
            Check.report("threw " + broken.getCause());
        }
    }
}
