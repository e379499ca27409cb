import java.lang.reflect.Method;
import java.util.ArrayList;
import java.util.LinkedHashMap;
import java.util.List;
import java.util.Map;

/** Every word of the Terms and of the promises is said by a case, and no case says words that the document has not. */
public final class SentencesTest {
    private static final Check check = new Check("SentencesTest");
    private static final Document document = new Document();
    private static final Map<String, boolean[]> said = new LinkedHashMap<>();
    private static final Class<?>[] PROMISES = {Promise01NewObjectTest.class, Promise02AddTest.class,
        Promise03EndTest.class, Promise04WholeTest.class, Promise05SyncTest.class, Promise06CutTest.class,
        Promise07StartTest.class, Promise08PokeTest.class, Promise09ByteOfTest.class, Promise10RowTest.class,
        Promise11FindTest.class, Promise12WrongTest.class, Promise13BackupTest.class, Promise14RestoreTest.class,
        Promise15TotalTest.class, Promise16CountTest.class};

    public static void main(String[] args) {
        List<String> sections = new ArrayList<>(List.of("What it is", "Terms"));
        for (int promise = 1; promise <= PROMISES.length; promise++) {
            sections.add("Promise " + promise);
        }
        for (String section : sections) {
            said.put(section, new boolean[document.section(section).length()]);
        }
        mark("What it is", LongRunsTest.class);
        mark("Terms", TermsTest.class);
        for (int promise = 1; promise <= PROMISES.length; promise++) {
            mark("Promise " + promise, PROMISES[promise - 1]);
        }
        sections.remove("What it is");
        for (String section : sections) {
            check.same("words of '" + section + "' that no case says", unsaid(section), "");
        }
        noPromiseWithoutATest();
        check.exit();
    }

    private static void mark(String section, Class<?> test) {
        for (Method method : test.getDeclaredMethods()) {
            if (method.isAnnotationPresent(Says.class)) {
                String words = method.getAnnotation(Says.class).value();
                boolean found = markIn(section, words) || markAnywhere(words);
                check.same(test.getName() + "." + method.getName() + " says words of the document",
                    found ? "yes" : words, "yes");
            }
        }
    }

    private static boolean markAnywhere(String words) {
        for (String section : said.keySet()) {
            if (markIn(section, words)) {
                return true;
            }
        }
        return false;
    }

    private static boolean markIn(String section, String words) {
        String text = document.section(section);
        boolean found = false;
        for (int at = text.indexOf(words); at >= 0; at = text.indexOf(words, at + 1)) {
            for (int i = 0; i < words.length(); i++) {
                said.get(section)[at + i] = true;
            }
            found = true;
        }
        return found;
    }

    /** The signature before a promise's words is left out: FaceTest holds to it. */
    private static String unsaid(String section) {
        String text = document.section(section);
        StringBuilder unsaid = new StringBuilder();
        int first = section.startsWith("Promise") ? text.indexOf(": ") : 0;
        for (int i = first; i < text.length(); i++) {
            if (!said.get(section)[i] && Character.isLetterOrDigit(text.charAt(i))) {
                unsaid.append(text.charAt(i));
            } else if (unsaid.length() > 0 && unsaid.charAt(unsaid.length() - 1) != ' ') {
                unsaid.append(' ');
            }
        }
        return unsaid.toString().trim();
    }

    private static void noPromiseWithoutATest() {
        int promises = 0;
        for (String name : document.names()) {
            promises += name.startsWith("Promise ") ? 1 : 0;
        }
        check.due("promises of the document", promises, PROMISES.length);
    }
}
