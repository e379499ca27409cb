import java.lang.reflect.Constructor;
import java.lang.reflect.Field;
import java.lang.reflect.Method;
import java.lang.reflect.Modifier;
import java.util.Arrays;
import java.util.Set;
import java.util.TreeSet;

/** The public face as the document writes it, and no other member that another class could see. */
public final class FaceTest {
    private static final Check check = new Check("FaceTest");
    private static final String NUMBER = "IllegalArgumentException";
    private static final String STATE = "IllegalStateException";
    private static final String ROOM = "UnsupportedOperationException";
    private static final String INDEX = "ArrayIndexOutOfBoundsException";
    private static final String ELEMENT = "NoSuchElementException";

    public static void main(String[] args) {
        Set<String> due = new TreeSet<>(Arrays.asList(
            method("int", "add", 1, NUMBER, STATE, ROOM),
            method("int", "end", 1, NUMBER, STATE, ROOM),
            method("int", "whole", 0, STATE, ROOM),
            method("int", "sync", 0, STATE),
            method("void", "cut", 2, NUMBER, STATE),
            method("int", "start", 0),
            method("int", "poke", 3, NUMBER, INDEX),
            method("int", "byteOf", 2, INDEX),
            method("int", "row", 2, ELEMENT, NUMBER),
            method("int", "find", 2, NUMBER),
            method("int", "wrong", 0),
            method("int", "backup", 0, STATE),
            method("int", "restore", 0, STATE),
            method("int", "total", 3, NUMBER),
            method("int", "count", 1)));
        check.same("methods", seenMethods().toString(), due.toString());
        check.due("public and final", StockLog.class.getModifiers(), Modifier.PUBLIC | Modifier.FINAL);
        Constructor<?>[] made = StockLog.class.getDeclaredConstructors();
        check.due("constructors", made.length, 1);
        check.same("constructor", made[0].toString(), "public StockLog(int)");
        for (Field field : StockLog.class.getDeclaredFields()) {
            check.due(field.getName() + " is private", field.getModifiers() & Modifier.PRIVATE, Modifier.PRIVATE);
        }
        check.exit();
    }

    private static String method(String answer, String name, int numbers, String... thrown) {
        String[] parameters = new String[numbers];
        Arrays.fill(parameters, "int");
        return answer + " " + name + Arrays.toString(parameters) + new TreeSet<>(Arrays.asList(thrown));
    }

    private static Set<String> seenMethods() {
        Set<String> seen = new TreeSet<>();
        for (Method one : StockLog.class.getDeclaredMethods()) {
            if (Modifier.isPrivate(one.getModifiers())) {
                continue;
            }
            String[] thrown = new String[one.getExceptionTypes().length];
            for (int i = 0; i < thrown.length; i++) {
                thrown[i] = one.getExceptionTypes()[i].getSimpleName();
            }
            seen.add(method(one.getReturnType().getName(), one.getName(), one.getParameterCount(), thrown));
        }
        return seen;
    }
}
