import java.lang.reflect.Method;
import java.util.ArrayList;
import java.util.Comparator;
import java.util.List;

/** Runs the tests of a class that bear words of the document. */
final class Edges {
    private Edges() {
    }

    static List<Method> of(Class<?> tests) {
        List<Method> found = new ArrayList<>();
        for (Method m : tests.getDeclaredMethods()) {
            if (m.isAnnotationPresent(Says.class)) {
                found.add(m);
            }
        }
        found.sort(Comparator.comparing(Method::getName));
        return found;
    }

    static void run(Class<?> tests) throws ReflectiveOperationException {
        for (Method m : of(tests)) {
            Says words = m.getAnnotation(Says.class);
            int asked = Due.asked();
            Due.under((words.in() == 0 ? "terms" : "promise " + words.in()) + ", \"" + words.is() + "\": ");
            m.setAccessible(true);
            m.invoke(null);
            Due.yes(m.getName() + " asks something", Due.asked() > asked);
        }
        Due.finish(tests.getSimpleName());
    }
}
