import java.lang.reflect.InvocationTargetException;
import java.lang.reflect.Method;
import java.util.Arrays;
import java.util.Comparator;

/** Runs every case of a test: each of its methods that says which words of the document it holds to. */
final class Cases {
    private Cases() {
    }

    static void run(Class<?> test) {
        Method[] methods = test.getDeclaredMethods();
        Arrays.sort(methods, Comparator.comparing(Method::getName));
        int cases = 0;
        int failed = 0;
        for (Method method : methods) {
            if (method.isAnnotationPresent(Says.class)) {
                cases++;
                failed += holds(test, method) ? 0 : 1;
            }
        }
        System.out.println(test.getName() + ": " + cases + " cases, " + failed + " failed");
        if (failed != 0 || cases == 0) {
            System.exit(1);
        }
    }

    private static boolean holds(Class<?> test, Method method) {
        Check check = new Check(test.getName() + "." + method.getName());
        String end = "ends";
        try {
            method.invoke(null, check);
        } catch (InvocationTargetException e) {
            end = "throws " + e.getCause();
        } catch (IllegalAccessException e) {
            end = "can't be called";
        }
        check.same("asking something", check.hasAsked() ? "yes" : "no", "yes");
        check.same("the case", end, "ends");
        if (!check.isAsDue()) {
            System.out.println("  the document says: " + method.getAnnotation(Says.class).value());
        }
        return check.isAsDue();
    }
}
