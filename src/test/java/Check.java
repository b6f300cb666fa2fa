import java.lang.reflect.Method;
import java.lang.reflect.Modifier;
import java.util.Arrays;
import java.util.Comparator;
import java.util.List;

/** Compares answers with those that are due, and counts the wrong ones. */
final class Check {
    private static int wrong = 0;
    private static String title = "";

    private Check() {
    }

    static void title(String text) {
        title = text;
    }

    static void due(String call, long got, long want) {
        if (got != want) {
            wrong++;
            System.out.println(title + ": " + call + " answered " + got + ", due is " + want);
        }
    }

    static void holds(String claim, boolean holds) {
        due(claim, holds ? 1 : 0, 1);
    }

    /** Runs each static method of the class that takes nothing: so that no test of it is forgotten. */
    static void run(Class<?> tests) throws ReflectiveOperationException {
        List<Method> all = Arrays.stream(tests.getDeclaredMethods())
            .filter(m -> Modifier.isStatic(m.getModifiers()) && m.getParameterCount() == 0 && !m.isSynthetic())
            .sorted(Comparator.comparing(Method::getName))
            .toList();
        for (Method test : all) {
            title(tests.getName() + "." + test.getName());
            test.invoke(null);
        }
        title(tests.getName());
        holds("some tests", !all.isEmpty());
    }

    static void end() {
        if (wrong != 0) {
            System.out.println(wrong + " answers are not as due");
            System.exit(1);
        }
    }
}
