import java.lang.reflect.Constructor;
import java.lang.reflect.Executable;
import java.lang.reflect.Field;
import java.lang.reflect.Method;
import java.lang.reflect.Modifier;
import java.nio.file.Path;
import java.util.ArrayList;
import java.util.List;
import java.util.Set;
import java.util.TreeSet;

/** The public face as the document's code block has it, and no other member that another class could see. */
public final class FaceTest {
    private static final Check check = new Check("FaceTest");
    private static final Document document = new Document();
    private static final int PROMISES = 16;

    public static void main(String[] args) {
        faceIsTheDocuments();
        parametersAreNamedAsInTheDocument();
        promisesRepeatTheFace();
        classIsPublicAndFinalAlone();
        noOtherMemberIsSeen();
        classesInsideAreStaticAndNotPublic();
        noPrivateMethodBearsThePublicName();
        check.exit();
    }

    private static void faceIsTheDocuments() {
        Set<String> seen = new TreeSet<>();
        for (Constructor<?> made : StockLog.class.getDeclaredConstructors()) {
            seen.add("public StockLog(" + parameters(made) + ")" + thrown(made));
        }
        for (Method method : StockLog.class.getDeclaredMethods()) {
            if (!Modifier.isPrivate(method.getModifiers())) {
                seen.add(Modifier.toString(method.getModifiers()) + " " + method.getReturnType().getName() + " "
                    + method.getName() + "(" + parameters(method) + ")" + thrown(method));
            }
        }
        Set<String> due = new TreeSet<>();
        for (String line : document.face()) {
            due.add(line.replace(";", "").replaceAll("int [a-z]+(?=[,)])", "int"));
        }
        check.due("lines of the document's face", due.size(), PROMISES);
        check.same("the face", String.join("\n", seen), String.join("\n", due));
    }

    private static String parameters(Executable called) {
        List<String> types = new ArrayList<>();
        for (Class<?> type : called.getParameterTypes()) {
            types.add(type.getName());
        }
        return String.join(", ", types);
    }

    private static String thrown(Executable called) {
        List<String> names = new ArrayList<>();
        for (Class<?> type : called.getExceptionTypes()) {
            names.add(type.getSimpleName());
        }
        return names.isEmpty() ? "" : " throws " + String.join(", ", names);
    }

    private static void parametersAreNamedAsInTheDocument() {
        String source = Document.read(Path.of("src/main/java/StockLog.java"));
        check.same("the class's first line", source.split("\n")[0], "import java.util.NoSuchElementException;");
        for (String line : document.face()) {
            String declared = line.replace(";", " {");
            check.same("the class declares " + line, source.contains(declared) ? declared : "not so", declared);
        }
    }

    /** Each promise begins with its own line of the face. */
    private static void promisesRepeatTheFace() {
        for (int promise = 1; promise <= PROMISES; promise++) {
            String line = document.face().get(promise - 1).replace("public ", "").replace(";", ": ");
            String section = document.section("Promise " + promise);
            check.same("promise " + promise + " is about", section.startsWith(line) ? line : section, line);
        }
    }

    private static void classIsPublicAndFinalAlone() {
        check.due("public and final", StockLog.class.getModifiers(), Modifier.PUBLIC | Modifier.FINAL);
        check.same("the class above it", StockLog.class.getSuperclass().getName(), "java.lang.Object");
        check.due("interfaces", StockLog.class.getInterfaces().length, 0);
        check.same("package", StockLog.class.getPackageName(), "");
    }

    private static void noOtherMemberIsSeen() {
        check.due("public fields", StockLog.class.getFields().length, 0);
        check.due("constructors", StockLog.class.getDeclaredConstructors().length, 1);
        for (Field field : StockLog.class.getDeclaredFields()) {
            check.due(field.getName() + " is private", field.getModifiers() & Modifier.PRIVATE, Modifier.PRIVATE);
        }
        for (Method method : StockLog.class.getMethods()) {
            boolean own = method.getDeclaringClass() == StockLog.class || method.getDeclaringClass() == Object.class;
            check.same(method.getName() + " is the class's own", own ? "yes" : "no", "yes");
        }
    }

    private static void classesInsideAreStaticAndNotPublic() {
        for (Class<?> inside : StockLog.class.getDeclaredClasses()) {
            int modifiers = inside.getModifiers();
            check.due(inside.getName() + " is seen", modifiers & (Modifier.PUBLIC | Modifier.PROTECTED), 0);
            check.due(inside.getName() + " is static", modifiers & Modifier.STATIC, Modifier.STATIC);
        }
    }

    private static void noPrivateMethodBearsThePublicName() {
        Set<String> names = new TreeSet<>();
        for (Method method : StockLog.class.getDeclaredMethods()) {
            check.same(method.getName() + " is the one of its name", names.add(method.getName()) ? "yes" : "no", "yes");
        }
    }
}
