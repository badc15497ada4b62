import java.lang.reflect.InvocationTargetException;
import java.lang.reflect.Method;
import java.util.ArrayList;
import java.util.Comparator;
import java.util.List;

/** Runs the tests of one promise: all methods of a class that bear words of the document. */
final class Promise {
    private Promise() {
    }

    static void run(Class<?> tests) {
        Check check = new Check();
        for (Method test : testsOf(tests)) {
            check.begin(tests.getSimpleName() + "." + test.getName());
            try {
                test.invoke(null, check);
            } catch (InvocationTargetException thrown) {
                thrown.getCause().printStackTrace(System.out);
                check.due("a call that throws nothing", false, true);
            } catch (IllegalAccessException closed) {
                check.due("a test that can be called", false, true);
            }
            check.end();
        }
        check.finish();
    }

    static List<Method> testsOf(Class<?> tests) {
        List<Method> all = new ArrayList<>();
        for (Method method : tests.getDeclaredMethods()) {
            if (method.isAnnotationPresent(Says.class)) {
                all.add(method);
            }
        }
        all.sort(Comparator.comparing(Method::getName));
        return all;
    }
}
