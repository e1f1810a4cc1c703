import java.io.IOException;
import java.lang.reflect.Method;
import java.lang.reflect.Modifier;
import java.nio.file.Files;
import java.nio.file.Path;
import java.util.Arrays;
import java.util.Set;
import java.util.TreeSet;
import java.util.regex.Matcher;
import java.util.regex.Pattern;
import java.util.stream.Collectors;
import java.util.stream.Stream;

/** What README.md says is so: the answers of its run of calls, its list of calls and its list of tests. */
public final class ReadmeTest {
    private static final Checks CHECKS = new Checks("ReadmeTest");
    private static final Pattern CALL = Pattern.compile("board\\.(\\w+)\\(([-\\d, ]*)\\); +// (-?\\d+):.*");

    public static void main(String[] args) throws IOException, ReflectiveOperationException {
        String readme = Files.readString(Path.of("README.md"));
        runOfCalls(readme);
        listOfCalls(readme);
        listOfTests(readme);
        CHECKS.end();
    }

    private static void runOfCalls(String readme) throws ReflectiveOperationException {
        JobBoard board = new JobBoard(0);
        String run = readme.split("```java\n", 2)[1].split("```", 2)[0];
        int calls = 0;
        for (String line : run.split("\n")) {
            Matcher call = CALL.matcher(line);
            if (call.matches()) {
                CHECKS.due(line, answer(board, call.group(1), call.group(2)), Integer.parseInt(call.group(3)));
                calls++;
            } else {
                CHECKS.isTrue("all lines but the first are calls: " + line, line.contains("new JobBoard(0)"));
            }
        }
        CHECKS.isTrue("there are calls", calls > 0);
    }

    private static int answer(JobBoard board, String name, String numbers) throws ReflectiveOperationException {
        Object[] arguments = numbers.isEmpty() ? new Object[0]
                : Arrays.stream(numbers.split(", ")).map(Integer::valueOf).toArray();
        Class<?>[] types = new Class<?>[arguments.length];
        Arrays.fill(types, int.class);
        return (int) JobBoard.class.getMethod(name, types).invoke(board, arguments);
    }

    private static void listOfCalls(String readme) {
        String list = readme.split("\\| calls \\|", 2)[1].split("\n\n", 2)[0];
        Set<String> told = found("`(\\w+)\\(", list);
        Set<String> there = Arrays.stream(JobBoard.class.getDeclaredMethods())
                .filter(method -> Modifier.isPublic(method.getModifiers()))
                .map(Method::getName).collect(Collectors.toCollection(TreeSet::new));
        CHECKS.isTrue("the calls " + told + " are " + there, told.equals(there));
    }

    private static void listOfTests(String readme) throws IOException {
        String list = readme.split("\\| test \\|", 2)[1].split("\n\n", 2)[0];
        Set<String> told = found("`(\\w+Test)`", list);
        try (Stream<Path> files = Files.list(Path.of("src", "test", "java"))) {
            Set<String> there = files.map(file -> file.getFileName().toString().replace(".java", ""))
                    .filter(name -> name.endsWith("Test")).collect(Collectors.toCollection(TreeSet::new));
            CHECKS.isTrue("the tests " + told + " are " + there, told.equals(there));
        }
    }

    private static Set<String> found(String pattern, String text) {
        Set<String> names = new TreeSet<>();
        Matcher matcher = Pattern.compile(pattern).matcher(text);
        while (matcher.find()) {
            names.add(matcher.group(1));
        }
        return names;
    }
}
