import java.io.IOException;
import java.lang.reflect.Method;
import java.lang.reflect.Modifier;
import java.nio.file.Files;
import java.nio.file.Path;
import java.util.ArrayList;
import java.util.Arrays;
import java.util.List;
import java.util.Set;
import java.util.TreeSet;
import java.util.regex.Matcher;
import java.util.regex.Pattern;
import java.util.stream.Stream;

/** What README.md tells: the answers of its examples, the names of classes, the way to run the tests. */
public final class ReadmeTest {
    private static final Path README = Path.of("README.md");
    private static final Path TESTS = Path.of("src/test/java");
    private static final Path RUN = Path.of(".ci/run");

    private static final String MADE = "RollPlanner x = new RollPlanner();";

    /** As "x.cut(0, 2);  // 1: words": a call, its arguments and its answer. */
    private static final Pattern CALL = Pattern.compile("x\\.(\\w+)\\(([-\\d, ]*)\\); +// (-?\\w+)(: \\S.*)");

    private final Checks checks = new Checks();
    private final List<String> lines;
    private final Set<String> shown = new TreeSet<>();
    private RollPlanner x;

    private ReadmeTest(List<String> lines) {
        this.lines = lines;
    }

    public static void main(String[] args) throws IOException, ReflectiveOperationException {
        ReadmeTest test = new ReadmeTest(Files.readAllLines(README));
        test.examples();
        test.everyCallIsShown();
        test.namesOfClasses();
        test.wayToRunTheTests();
        test.checks.end("ReadmeTest");
    }

    private void examples() throws ReflectiveOperationException {
        boolean isCode = false;
        for (String line : lines) {
            if (line.startsWith("```")) {
                isCode = line.equals("```java");
            } else if (isCode && !line.isEmpty()) {
                example(line);
            }
        }
    }

    private void example(String line) throws ReflectiveOperationException {
        if (line.equals(MADE)) {
            x = new RollPlanner();
            return;
        }
        Matcher call = CALL.matcher(line);
        boolean isCall = call.matches();
        checks.holds("an example with its answer: " + line, isCall && x != null);
        if (isCall && x != null) {
            shown.add(call.group(1));
            checks.same(line.substring(0, line.indexOf(';')), answer(call.group(1), numbers(call.group(2))), due(call.group(3)));
        }
    }

    private static Object[] numbers(String arguments) {
        if (arguments.isEmpty()) {
            return new Object[0];
        }
        return Arrays.stream(arguments.split(", ")).map(Integer::valueOf).toArray();
    }

    private String answer(String name, Object[] numbers) throws ReflectiveOperationException {
        Class<?>[] types = new Class<?>[numbers.length];
        Arrays.fill(types, int.class);
        return String.valueOf(RollPlanner.class.getMethod(name, types).invoke(x, numbers));
    }

    private static String due(String answer) {
        return answer.equals("NONE") ? String.valueOf(RollPlanner.NONE) : answer;
    }

    private void everyCallIsShown() {
        Set<String> face = new TreeSet<>();
        for (Method method : RollPlanner.class.getDeclaredMethods()) {
            if (Modifier.isPublic(method.getModifiers())) {
                face.add(method.getName());
            }
        }
        checks.same("the calls that are shown", shown.toString(), face.toString());
    }

    private void namesOfClasses() throws IOException {
        String text = String.join("\n", lines);
        for (Class<?> inside : RollPlanner.class.getDeclaredClasses()) {
            checks.holds("it names " + inside.getSimpleName(), text.contains("`" + inside.getSimpleName() + "`"));
        }
        for (String test : testClasses()) {
            checks.holds("it names " + test, text.contains("`" + test + "`"));
        }
        Matcher named = Pattern.compile("`(\\w+(?:Test|Edges))`").matcher(text);
        while (named.find()) {
            checks.holds(named.group(1) + " is there", Files.exists(TESTS.resolve(named.group(1) + ".java")));
        }
    }

    private static List<String> testClasses() throws IOException {
        try (Stream<Path> files = Files.list(TESTS)) {
            return files.map(file -> file.getFileName().toString().replace(".java", ""))
                    .filter(name -> name.endsWith("Test") || name.endsWith("Edges"))
                    .sorted()
                    .toList();
        }
    }

    /** The one command that stands there is .ci/run, which does what is told of it. */
    private void wayToRunTheTests() throws IOException {
        List<String> commands = new ArrayList<>();
        for (String line : lines.subList(lines.indexOf("## How to run its tests") + 1, lines.size())) {
            if (line.startsWith("    ")) {
                commands.add(line.trim());
            }
        }
        checks.same("the commands", commands.toString(), List.of(RUN.toString()).toString());
        checks.holds(RUN + " can be run", Files.isExecutable(RUN));
        String script = Files.readString(RUN);
        checks.holds("it runs each test of the project", script.contains("src/test/java/*Test.java"));
        checks.holds("it runs each test under ../shared/tests", script.contains("../shared/tests"));
    }
}
