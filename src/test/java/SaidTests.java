import java.lang.reflect.InvocationTargetException;
import java.lang.reflect.Method;
import java.util.Arrays;
import java.util.Comparator;

/** Runs each test of a class that says a sentence, by itself, and tells the sentences that do not hold. */
final class SaidTests {
    private SaidTests() {
    }

    static void run(Class<?> tests) throws IllegalAccessException {
        Method[] methods = tests.getDeclaredMethods();
        Arrays.sort(methods, Comparator.comparing(Method::getName));
        int held = 0;
        int broken = 0;
        for (Method method : methods) {
            if (method.isAnnotationPresent(Says.class)) {
                if (holds(method)) {
                    held++;
                } else {
                    broken++;
                }
            }
        }
        System.out.println(held + " tests of a sentence held, " + broken + " did not");
        if (broken != 0 || held == 0) {
            System.exit(1);
        }
    }

    private static boolean holds(Method test) throws IllegalAccessException {
        Says says = test.getAnnotation(Says.class);
        Due due = new Due(test.getName() + " [" + says.where() + ", \"" + says.sentence() + "\"] ");
        try {
            test.invoke(null, due);
        } catch (InvocationTargetException e) {
            // What one test throws must not keep the others from being run.
            due.check("a call", "throws." + e.getCause().getClass().getSimpleName(), "an answer");
        }
        return due.isMet();
    }
}
