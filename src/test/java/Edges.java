import java.io.IOException;
import java.lang.reflect.InvocationTargetException;
import java.lang.reflect.Method;
import java.lang.reflect.Modifier;
import java.util.Arrays;
import java.util.Comparator;
import java.util.Map;

/** Runs a class of tests, each of which is of words of the document. */
final class Edges {
    private Edges() {
    }

    /** Those of a class, by their names. */
    static Method[] testsOf(Class<?> tests) {
        Method[] all = Arrays.stream(tests.getDeclaredMethods()).filter(m -> m.isAnnotationPresent(Says.class)).toArray(Method[]::new);
        Arrays.sort(all, Comparator.comparing(Method::getName));
        return all;
    }

    static void run(Class<?> tests) throws IOException {
        Map<String, String> sections = Doc.sections();
        for (Method test : testsOf(tests)) {
            Says says = test.getAnnotation(Says.class);
            Due.of(says.of() + ", " + says.text());
            boolean stands = sections.getOrDefault(says.of(), "").contains(Doc.plain(says.text()));
            Due.is(1, stands ? 1 : 0, "the document, for these words,");
            int before = Due.asked();
            call(test);
            Due.is(1, Due.asked() > before ? 1 : 0, test.getName() + ", for anything asked in it,");
        }
        Due.end(tests.getSimpleName());
    }

    private static void call(Method test) {
        try {
            if (!Modifier.isStatic(test.getModifiers())) throw new IllegalStateException(test.getName() + " isn't static");
            test.invoke(null);
        } catch (IllegalAccessException e) {
            throw new IllegalStateException(test.getName() + " can't be called", e);
        } catch (InvocationTargetException e) {
            throw new IllegalStateException(test.getName() + " threw " + e.getCause(), e.getCause());
        }
    }
}
