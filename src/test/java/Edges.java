import java.lang.reflect.InvocationTargetException;
import java.lang.reflect.Method;
import java.util.Arrays;
import java.util.Comparator;

/** Runs every test of a class that bears the document's words, each with a fresh object. */
final class Edges {
    private Edges() {
    }

    static void run(Class<?> tests) {
        Check check = new Check();
        Method[] methods = tests.getDeclaredMethods();
        Arrays.sort(methods, Comparator.comparing(Method::getName));
        int count = 0;
        for (Method method : methods) {
            Says says = method.getAnnotation(Says.class);
            if (says != null) {
                check.about(method.getName() + ", \"" + says.value() + "\"");
                runOne(method, check);
                count++;
            }
        }
        check.due("some test was run", count > 0, true);
        check.end();
    }

    private static void runOne(Method method, Check check) {
        try {
            method.setAccessible(true);
            method.invoke(null, check);
        } catch (InvocationTargetException e) {
            throw new IllegalStateException(method.getName(), e.getCause());
        } catch (IllegalAccessException e) {
            throw new IllegalStateException(method.getName(), e);
        }
    }
}
