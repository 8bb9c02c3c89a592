import java.io.IOException;
import java.lang.reflect.Method;
import java.nio.file.Files;
import java.nio.file.Path;
import java.util.Arrays;
import java.util.List;
import java.util.Map;
import java.util.Set;
import java.util.TreeSet;
import java.util.regex.Matcher;
import java.util.regex.Pattern;
import java.util.stream.Collectors;
import java.util.stream.Stream;

/** That README.md holds as it is written: each call of its example answers as told there, and what it names is there. */
public final class ReadmeTest extends Answers {
    private static final Pattern EXAMPLE = Pattern.compile("(?s)```java\n(.*?)```");
    private static final Pattern TEXT = Pattern.compile("String text = \"([^\"]*)\";");
    private static final Pattern CALL = Pattern.compile("x\\.(\\w+)\\(([-0-9, ]*)\\); +// (-?\\d+|BAD|NO|FULL|NONE): .*");
    private static final Pattern NAMED = Pattern.compile("`([\\w./]*/[\\w./]*|\\w+Test|Answers)`");
    private static final Map<String, Integer> CONSTANTS = Map.of("BAD", BAD, "NO", NO, "FULL", FULL, "NONE", NONE);

    public static void main(String[] args) throws IOException, ReflectiveOperationException {
        String readme = Files.readString(Path.of("README.md"));
        Matcher example = EXAMPLE.matcher(readme);
        sentence("README.md, Use");
        holds("there is an example", example.find());
        answersAsTold(example.group(1));
        showsEachCall(example.group(1));
        constantsAsTold(readme);
        sentence("README.md, Tests");
        namesWhatIsThere(readme);
        namesEachTest(readme);
        holds(".ci/run can be run", Files.isExecutable(Path.of(".ci/run")));
        finish("README.md holds");
    }

    private static void answersAsTold(String example) throws ReflectiveOperationException {
        Matcher text = TEXT.matcher(example);
        holds("there is a TEXT", text.find());
        HookOrCrook x = new HookOrCrook();
        put(x, text.group(1));
        for (String line : example.split("\n")) {
            if (line.startsWith("x.")) {
                Matcher call = CALL.matcher(line);
                holds("a call and its answer: " + line, call.matches());
                due(line, answer(x, call.group(1), call.group(2)), number(call.group(3)));
            }
        }
    }

    private static int answer(HookOrCrook x, String name, String told) throws ReflectiveOperationException {
        Object[] numbers = told.isEmpty() ? new Object[0] : Arrays.stream(told.split(", ")).map(Integer::valueOf).toArray();
        Class<?>[] types = new Class<?>[numbers.length];
        Arrays.fill(types, int.class);
        return (int) HookOrCrook.class.getMethod(name, types).invoke(x, numbers);
    }

    private static int number(String told) {
        return CONSTANTS.containsKey(told) ? CONSTANTS.get(told) : Integer.parseInt(told);
    }

    private static void showsEachCall(String example) {
        for (Method m : HookOrCrook.class.getMethods()) {
            if (m.getDeclaringClass() == HookOrCrook.class) {
                holds(m.getName() + " is shown", example.contains("x." + m.getName() + "("));
            }
        }
    }

    private static void constantsAsTold(String readme) throws ReflectiveOperationException {
        for (String name : CONSTANTS.keySet()) {
            int is = HookOrCrook.class.getField(name).getInt(null);
            holds(name + " is " + is, readme.contains("`" + name + "` (" + is + ")"));
        }
    }

    private static void namesWhatIsThere(String readme) {
        Matcher named = NAMED.matcher(readme);
        while (named.find()) {
            String name = named.group(1);
            Path path = name.contains("/") ? Path.of(name) : Path.of("src/test/java", name + ".java");
            holds(name + " is there", Files.exists(path));
        }
    }

    private static void namesEachTest(String readme) throws IOException {
        Set<String> files;
        try (Stream<Path> found = Files.list(Path.of("src/test/java"))) {
            files = found.map(p -> p.getFileName().toString()).collect(Collectors.toCollection(TreeSet::new));
        }
        for (String file : files) {
            holds(file + " is named", readme.contains("`" + file.replace(".java", "") + "`"));
        }
        holds("there are tests", files.containsAll(List.of("PromisesTest.java", "ReadmeTest.java")));
    }
}
