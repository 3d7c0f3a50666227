import java.lang.reflect.InvocationTargetException;
import java.lang.reflect.Method;
import java.util.ArrayList;
import java.util.Comparator;
import java.util.List;

/** Runs every method of a class that is named after a term or a promise, and tells how each went. */
final class NamedTests {
    private NamedTests() {
    }

    static void run(Class<?> tests) throws IllegalAccessException {
        List<Method> found = testsOf(tests);
        Check.same(tests.getName() + " has tests", !found.isEmpty(), true);
        for (Method test : found) {
            int before = Check.failed();
            try {
                test.invoke(null, test.getName());
            } catch (InvocationTargetException e) {
                Check.same(test.getName(), e.getCause(), "an end without an exception");
            }
            System.out.println((Check.failed() == before ? "ok     " : "FAILED ") + test.getName());
        }
        Check.end();
    }

    private static List<Method> testsOf(Class<?> tests) {
        List<Method> found = new ArrayList<>();
        for (Method method : tests.getDeclaredMethods()) {
            if (method.getName().matches("(terms|promise[0-9]+)[A-Z].*")) {
                found.add(method);
            }
        }
        found.sort(Comparator.comparing(Method::getName));
        return found;
    }
}
