import java.nio.file.Path;
import java.util.Arrays;
import java.util.List;
import java.util.Set;
import java.util.TreeSet;
import java.util.regex.Matcher;
import java.util.regex.Pattern;

/** What README.md shows: each answer written in its examples, and its table of calls, one for each of the face. */
public final class ReadmeTest {
    private static final Pattern MADE = Pattern.compile("StockLog log = new StockLog\\((-?\\d+)\\);");
    private static final Pattern CALLED =
        Pattern.compile("log\\.(\\w+)(\\([^)]*\\)); +// (-?\\d+|nothing|throws \\w+)(?:: \\S.*)?");
    private static final Pattern DECLARED = Pattern.compile("public \\w+ (\\w+\\(.*?\\))(?: throws (.*))?;");
    private static final Pattern EXCEPTION = Pattern.compile("\\w+Exception");

    private static final Check check = new Check("ReadmeTest");
    private static final String readme = Document.read(Path.of("README.md"));
    private static final Set<String> shown = new TreeSet<>();

    public static void main(String[] args) {
        List<List<String>> examples = Document.blocks(readme);
        check.same("an example", examples.isEmpty() ? "none" : "there", "there");
        for (List<String> example : examples) {
            run(example);
        }
        for (String line : new Document().face()) {
            Matcher declared = DECLARED.matcher(line);
            if (declared.matches()) {
                calledInAnExample(declared.group(1));
                listedInTheTable(declared.group(1).replace("int ", ""), declared.group(2));
            }
        }
        check.same("how to run the tests", readme.contains("\n    .ci/run\n") ? "there" : "missing", "there");
        check.exit();
    }

    /** A line of another form than these two would be one whose answer nothing looks at: it fails. */
    private static void run(List<String> example) {
        Matcher made = MADE.matcher(example.get(0));
        check.same("an example's first line", made.matches() ? "makes an object" : example.get(0), "makes an object");
        StockLog log = new StockLog(Integer.parseInt(made.group(1)));
        for (String line : example.subList(1, example.size())) {
            Matcher called = CALLED.matcher(line);
            check.same("a line of an example", called.matches() ? "a call with its answer" : line,
                "a call with its answer");
            shown.add(called.group(1));
            check.same("README.md's " + line, Calls.answer(log, called.group(1) + called.group(2)), called.group(3));
        }
    }

    private static void calledInAnExample(String declared) {
        String name = declared.substring(0, declared.indexOf('('));
        check.same(name + " in the examples", shown.contains(name) ? "there" : "missing", "there");
    }

    private static void listedInTheTable(String call, String thrown) {
        Set<String> due = new TreeSet<>();
        if (thrown != null) {
            due.addAll(Arrays.asList(thrown.split(", ")));
        }
        int rows = 0;
        for (String line : readme.split("\n")) {
            if (line.startsWith("| `" + call + "` |")) {
                rows++;
                check.same("README.md's exceptions of " + call, exceptions(line).toString(), due.toString());
            }
        }
        check.due("README.md's rows for " + call, rows, 1);
    }

    private static Set<String> exceptions(String line) {
        Set<String> names = new TreeSet<>();
        Matcher found = EXCEPTION.matcher(line);
        while (found.find()) {
            names.add(found.group());
        }
        return names;
    }
}
