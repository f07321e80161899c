import java.io.IOException;
import java.lang.reflect.InvocationTargetException;
import java.lang.reflect.Method;
import java.lang.reflect.Modifier;
import java.nio.file.Files;
import java.nio.file.Path;
import java.util.ArrayList;
import java.util.Arrays;
import java.util.HashMap;
import java.util.List;
import java.util.Map;
import java.util.regex.Matcher;
import java.util.regex.Pattern;
import java.util.stream.Stream;

/** The run of calls that README.md shows, read from there and made: each call has the answer behind it. */
public final class ReadmeTest {
    private static final Pattern CALL = Pattern.compile("(?:int (\\w+) = )?desk\\.(\\w+)\\(([^;]*)\\);\\s*// (.+)");
    private static final Pattern ANSWER = Pattern.compile("(?:throws (\\w+)|(-?\\d+|true|false))(?:[:,;] .+)?");
    private static final Pattern COMMAND = Pattern.compile("\\| ([1-8, ]+) \\| ([\\d, ]+) \\| .*");
    private static final Pattern PROMISE = Pattern.compile("## Promise (\\d+): (\\w+)");

    private static final Checks checks = new Checks("ReadmeTest");

    private final BrailleDesk desk = new BrailleDesk();
    private final Map<String, Integer> numbers = new HashMap<>();
    private final Map<String, String> promises = new HashMap<>();
    private int calls;

    private ReadmeTest() throws IOException {
        for (String line : Files.readAllLines(Path.of("../shared/DOC.md"))) {
            Matcher heading = PROMISE.matcher(line);
            if (heading.matches()) {
                promises.put(heading.group(2), heading.group(1));
            }
        }
    }

    public static void main(String[] args) throws IOException, IllegalAccessException {
        List<String> readme = Files.readAllLines(Path.of("README.md"));
        ReadmeTest test = new ReadmeTest();
        for (String line : block(readme)) {
            test.run(line);
        }
        checks.same("0: a run of calls is shown", true, test.calls >= 20);
        commands(readme);
        tables(String.join("\n", readme));
        checks.finish();
    }

    /** The lines of Java, but for those that only say something, and the one that makes the desk. */
    private static List<String> block(List<String> readme) {
        List<String> lines = new ArrayList<>();
        int start = readme.indexOf("```java");
        int end = start < 0 ? start : start + readme.subList(start, readme.size()).indexOf("```");
        for (int i = start + 1; i < end; i++) {
            String line = readme.get(i).strip();
            if (!line.isEmpty() && !line.startsWith("//") && !line.equals("BrailleDesk desk = new BrailleDesk();")) {
                lines.add(line);
            }
        }
        return lines;
    }

    private void run(String line) throws IllegalAccessException {
        Matcher call = CALL.matcher(line);
        Matcher due = ANSWER.matcher(call.matches() ? call.group(4) : "");
        boolean isCall = due.matches();
        checks.same("0: an answer stands behind \"" + line + "\"", true, isCall);
        if (!isCall) {
            return;
        }
        calls++;
        String name = call.group(2);
        Object answer = answer(name, arguments(call.group(3)));
        Object wanted = due.group(1) == null ? due.group(2) : "throws." + due.group(1);
        checks.same(promises.get(name) + ": " + line, wanted, "" + answer);
        if (call.group(1) != null && answer instanceof Integer number) {
            numbers.put(call.group(1), number);
        }
    }

    private Object answer(String name, Object[] arguments) throws IllegalAccessException {
        for (Method method : BrailleDesk.class.getMethods()) {
            if (method.getName().equals(name) && method.getParameterCount() == arguments.length) {
                try {
                    return method.invoke(desk, arguments);
                } catch (InvocationTargetException e) {
                    return "throws." + e.getCause().getClass().getSimpleName();
                }
            }
        }
        return "no such method";
    }

    private Object[] arguments(String text) {
        return text.isEmpty() ? new Object[0] : Arrays.stream(text.split(", ")).map(this::argument).toArray();
    }

    private Object argument(String text) {
        if (text.equals("true") || text.equals("false")) {
            return Boolean.valueOf(text);
        }
        return Arrays.stream(text.split(" \\+ ")).mapToInt(this::number).sum();
    }

    private int number(String text) {
        if (text.startsWith("'")) {
            return text.charAt(1);
        }
        if (text.startsWith("BrailleDesk.")) {
            return constant(text.substring("BrailleDesk.".length()));
        }
        return numbers.containsKey(text) ? numbers.get(text) : Integer.parseInt(text);
    }

    private static int constant(String name) {
        try {
            return BrailleDesk.class.getField(name).getInt(null);
        } catch (ReflectiveOperationException e) {
            throw new IllegalArgumentException("no constant has the name " + name, e);
        }
    }

    /** The numbers that the table of commands gives are those of the space and the points. */
    private static void commands(List<String> readme) {
        int found = 0;
        for (String line : readme) {
            Matcher row = COMMAND.matcher(line);
            if (row.matches()) {
                String[] points = row.group(1).split(", ");
                int[] keys = Stream.of(points).mapToInt(each -> 256 + Bench.keys(each)).toArray();
                checks.same("27: " + line, row.group(2), Arrays.toString(keys).replaceAll("[\\[\\]]", ""));
                found += keys.length;
            }
        }
        checks.same("27: commands", 12, found);
    }

    /** Each method of the face and each test is told of. */
    private static void tables(String readme) throws IOException {
        for (Method method : BrailleDesk.class.getDeclaredMethods()) {
            if (Modifier.isPublic(method.getModifiers())) {
                checks.same("0: README.md tells of " + method.getName(), true, readme.contains("`" + method.getName() + "`"));
            }
        }
        try (Stream<Path> tests = Files.list(Path.of("src/test/java"))) {
            tests.map(path -> path.getFileName().toString()).filter(name -> name.endsWith("Test.java")).sorted()
                    .map(name -> name.replace(".java", "")).forEach(name ->
                            checks.same("0: README.md tells of " + name, true, readme.contains("| `" + name + "` |")));
        }
    }
}
