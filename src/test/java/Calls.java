import java.lang.reflect.InvocationTargetException;
import java.lang.reflect.Method;
import java.util.Arrays;
import java.util.regex.Matcher;
import java.util.regex.Pattern;

/** Calls that are written as a text, such as "cut(4, 0)", made on an object. */
final class Calls {
    static final String NOTHING = "nothing";
    private static final Pattern CALL = Pattern.compile("(\\w+)\\(((?:-?\\d+(?:, -?\\d+)*)?)\\)");

    private Calls() {
    }

    /** The answer; "nothing", if the call has none; or "throws" and the exception's name. */
    static String answer(StockLog log, String call) {
        Matcher parts = CALL.matcher(call);
        if (!parts.matches()) {
            throw new AssertionError("no call: " + call);
        }
        Object[] numbers = numbers(parts.group(2));
        try {
            Object answer = method(parts.group(1), numbers.length).invoke(log, numbers);
            return answer == null ? NOTHING : answer.toString();
        } catch (InvocationTargetException e) {
            return "throws " + e.getCause().getClass().getSimpleName();
        } catch (IllegalAccessException e) {
            throw new AssertionError(call, e);
        }
    }

    private static Object[] numbers(String text) {
        if (text.isEmpty()) {
            return new Object[0];
        }
        return Arrays.stream(text.split(", ")).map(Integer::valueOf).toArray();
    }

    private static Method method(String name, int numbers) {
        Class<?>[] types = new Class<?>[numbers];
        Arrays.fill(types, int.class);
        try {
            return StockLog.class.getMethod(name, types);
        } catch (NoSuchMethodException e) {
            throw new AssertionError("no such call: " + name, e);
        }
    }
}
