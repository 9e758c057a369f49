import java.lang.reflect.InvocationTargetException;
import java.lang.reflect.Method;
import java.util.ArrayList;
import java.util.Comparator;
import java.util.List;

/** Runs the tests of a class, each of which is of one sentence of the document. */
final class Sentences {
    private Sentences() {
    }

    /** The tests of a class: its methods that say of which sentence they are. */
    static List<Method> of(Class<?> tests) {
        List<Method> all = new ArrayList<>();
        for (Method method : tests.getDeclaredMethods()) {
            if (method.isAnnotationPresent(Says.class)) {
                all.add(method);
            }
        }
        all.sort(Comparator.comparing(Method::getName));
        return all;
    }

    static void run(Class<?> tests, Check check) {
        for (Method test : of(tests)) {
            Says says = test.getAnnotation(Says.class);
            check.of(test.getName() + " (" + says.in() + ": \"" + String.join(" .. ", says.words()) + "\")");
            int before = check.asked();
            check.due("it threw", threw(test), false);
            check.due("it asks something", check.asked() > before + 1, true);
        }
        System.out.println(of(tests).size() + " sentences");
        check.finish();
    }

    private static boolean threw(Method test) {
        try {
            test.invoke(null);
            return false;
        } catch (InvocationTargetException e) {
            e.getCause().printStackTrace(System.out);
            return true;
        } catch (IllegalAccessException e) {
            throw new IllegalStateException(e);
        }
    }
}
