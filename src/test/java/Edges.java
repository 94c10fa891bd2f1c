import java.lang.reflect.InvocationTargetException;
import java.lang.reflect.Method;
import java.util.ArrayList;
import java.util.Comparator;
import java.util.List;

/** Finds and runs the tests that are marked with words of the document. */
final class Edges {
    private Edges() {
    }

    static List<Method> of(Class<?> tests) {
        List<Method> found = new ArrayList<>();
        for (Method m : tests.getDeclaredMethods()) {
            if (m.isAnnotationPresent(Edge.class)) {
                found.add(m);
            }
        }
        found.sort(Comparator.comparing(Method::getName));
        return found;
    }

    static void run(Class<?> tests) throws IllegalAccessException, InvocationTargetException {
        String name = tests.getSimpleName();
        Check check = new Check(name);
        for (Method m : of(tests)) {
            check.under(name + "." + m.getName());
            int before = check.looked();
            m.invoke(null, check);
            check.due("looks at something", check.looked() > before ? 1 : 0, 1);
        }
        check.under(name);
        check.end();
    }
}
