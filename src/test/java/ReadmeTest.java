import java.io.File;
import java.io.IOException;
import java.lang.reflect.InvocationTargetException;
import java.lang.reflect.Method;
import java.nio.file.Files;
import java.nio.file.Path;
import java.util.ArrayList;
import java.util.HashMap;
import java.util.List;
import java.util.Map;
import java.util.Set;
import java.util.TreeMap;
import java.util.TreeSet;
import java.util.regex.Matcher;
import java.util.regex.Pattern;

/** README.md: its run is made call by call, and its tables are held against what is there. */
public final class ReadmeTest {
    private static final Check check = new Check("ReadmeTest");
    private static final Path README = Path.of("README.md");
    private static final Path TESTS = Path.of("src", "test", "java");
    private static final Pattern MAKE =
            Pattern.compile("LinkHost (\\w+) = new LinkHost\\((\\d+)\\);.*");
    private static final Pattern CALL =
            Pattern.compile("(\\w+)\\.(\\w+)\\(([-0-9, ]*)\\);(?: +// (.*))?");
    private static final Pattern ANSWER = Pattern.compile("(-?\\d+): .*");
    private static final Pattern THROWS = Pattern.compile("throws (\\w+)");
    private static final Pattern CALL_ROW =
            Pattern.compile("\\| `(\\w+)\\(([\\w, ]*)\\)` \\| [^|]+ \\| ([^|]*)\\| ([^|]*)\\|");
    private static final Pattern TEST_ROW = Pattern.compile("\\| (\\w+Test) \\| [^|]+ \\|");

    public static void main(String[] args) throws IOException {
        List<String> lines = Files.readAllLines(README);
        check.under("README.md, the run");
        makesTheRun(blockBehind(lines, "## How to use it", "```java"));
        check.under("README.md, the calls");
        listsTheCalls(lines);
        check.under("README.md, the tests");
        listsTheTests(lines);
        namesTheCommand(lines);
        check.end();
    }

    /** The lines of the first such block behind a heading. */
    private static List<String> blockBehind(List<String> lines, String heading, String opening) {
        List<String> behind = lines.subList(lines.indexOf(heading) + 1, lines.size());
        int start = behind.indexOf(opening) + 1;
        check.holds(heading + " has a block " + opening, lines.contains(heading) && start > 0);
        List<String> block = new ArrayList<>(behind.subList(start, behind.size()));
        return block.subList(0, block.indexOf("```"));
    }

    private static void makesTheRun(List<String> block) {
        Map<String, LinkHost> hosts = new HashMap<>();
        Set<String> shown = new TreeSet<>();
        for (String line : block) {
            Matcher made = MAKE.matcher(line);
            Matcher called = CALL.matcher(line);
            if (made.matches()) {
                hosts.put(made.group(1), new LinkHost(Integer.parseInt(made.group(2))));
            } else if (called.matches()) {
                shown.add(called.group(2));
                answersAsShown(line, hosts.get(called.group(1)), called);
            } else {
                check.same("a line that is no call", line, "");
            }
        }
        check.same("the calls that it shows", shown.toString(), face().keySet().toString());
    }

    private static void answersAsShown(String line, LinkHost host, Matcher called) {
        Method method = face().get(called.group(2));
        String comment = called.group(4) == null ? "" : called.group(4);
        Matcher answer = ANSWER.matcher(comment);
        Matcher thrown = THROWS.matcher(comment);
        boolean answers = method.getReturnType() == int.class;
        String shown = thrown.matches() ? thrown.group(1) : answer.matches() ? answer.group(1) : "";
        check.holds(line + " shows an answer if there is one", thrown.matches()
                || answers == answer.matches());
        check.same(line, outcome(method, host, numbers(called.group(3))), shown);
    }

    private static Object[] numbers(String written) {
        List<Object> numbers = new ArrayList<>();
        for (String number : written.split(", ")) {
            numbers.add(Integer.valueOf(number));
        }
        return numbers.toArray();
    }

    /** What it answers (nothing, if it is void), or the name of what it throws. */
    private static String outcome(Method method, LinkHost host, Object[] arguments) {
        try {
            Object answer = method.invoke(host, arguments);
            return answer == null ? "" : answer.toString();
        } catch (InvocationTargetException e) {
            return e.getCause().getClass().getSimpleName();
        } catch (IllegalAccessException e) {
            return e.toString();
        }
    }

    private static Map<String, Method> face() {
        Map<String, Method> face = new TreeMap<>();
        for (Method method : LinkHost.class.getMethods()) {
            if (method.getDeclaringClass() == LinkHost.class) {
                face.put(method.getName(), method);
            }
        }
        return face;
    }

    private static void listsTheCalls(List<String> lines) {
        Map<String, Method> face = face();
        Set<String> listed = new TreeSet<>();
        for (String line : lines) {
            Matcher row = CALL_ROW.matcher(line);
            if (row.matches()) {
                listed.add(row.group(1));
                isAsListed(face.get(row.group(1)), row);
            }
        }
        check.same("the calls in the table", listed.toString(), face.keySet().toString());
    }

    private static void isAsListed(Method method, Matcher row) {
        check.holds(row.group(1) + " is a call", method != null);
        if (method == null) {
            return;
        }
        check.due(row.group(1) + ": arguments", row.group(2).split(", ").length,
                method.getParameterCount());
        check.holds(row.group(1) + ": an answer if there is one",
                row.group(3).isBlank() == (method.getReturnType() == void.class));
        List<String> thrown = new ArrayList<>();
        for (Class<?> type : method.getExceptionTypes()) {
            thrown.add(type.getSimpleName());
        }
        check.same(row.group(1) + ": throws", row.group(4).strip(), String.join(", ", thrown));
    }

    private static void listsTheTests(List<String> lines) {
        Set<String> listed = new TreeSet<>();
        for (String line : lines) {
            Matcher row = TEST_ROW.matcher(line);
            if (row.matches()) {
                check.holds(row.group(1) + " is listed once", listed.add(row.group(1)));
            }
        }
        Set<String> there = new TreeSet<>();
        for (File file : TESTS.toFile().listFiles()) {
            if (file.getName().endsWith("Test.java")) {
                there.add(file.getName().replace(".java", ""));
            }
        }
        check.same("the tests in the tables", listed.toString(), there.toString());
    }

    private static void namesTheCommand(List<String> lines) throws IOException {
        List<String> block = blockBehind(lines, "## How to run its tests", "```sh");
        check.same("the command", block.toString(), "[.ci/run]");
        String script = Files.readString(Path.of(".ci", "run"));
        check.holds("it runs all of the project", script.contains("src/test/java/*Test.java"));
        check.holds("it runs all that are shared", script.contains("../shared/tests/*.java"));
    }
}
