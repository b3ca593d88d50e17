import java.io.IOException;
import java.lang.reflect.Method;
import java.nio.file.DirectoryStream;
import java.nio.file.Files;
import java.nio.file.Path;
import java.util.ArrayList;
import java.util.HashMap;
import java.util.List;
import java.util.Map;
import java.util.Set;
import java.util.TreeSet;
import java.util.regex.Matcher;
import java.util.regex.Pattern;

/** README.md fits the class and the tests: its example answers what it says, its tests are there. */
public final class ReadmeTest {
    private static final Pattern CALL = Pattern.compile(
            "(?:int (\\w+) = )?x\\.(\\w+)\\(([^)]*)\\);(?:\\s*// (?:(-?\\d+)(?::.*)?|\\D.*))?");
    private static final Pattern TEST = Pattern.compile("`(\\w+Test)`");
    private static final String NEW = "DeltaViews x = new DeltaViews();";

    public static void main(String[] args) throws Exception {
        String readme = Files.readString(Path.of("README.md"));
        example(readme);
        testsThatAreNamed(readme);
        methodsThatAreNamed(readme);
        Check.end();
    }

    private static void example(String readme) throws ReflectiveOperationException {
        DeltaViews x = new DeltaViews();
        Map<String, Integer> numbers = new HashMap<>();
        int answers = 0;
        for (String line : linesOfExample(readme)) {
            Matcher call = CALL.matcher(line);
            if (!call.matches()) {
                Check.holds("\"" + line + "\" is a call", line.startsWith(NEW));
                continue;
            }
            long answer = answer(x, call.group(2), call.group(3), numbers);
            if (call.group(1) != null) {
                numbers.put(call.group(1), (int) answer);
            }
            if (call.group(4) != null) {
                Check.due(line, answer, Long.parseLong(call.group(4)));
                answers++;
            }
        }
        Check.holds("the example says what is answered", answers >= 5);
    }

    private static List<String> linesOfExample(String readme) {
        List<String> lines = new ArrayList<>();
        boolean inside = false;
        for (String line : readme.split("\n")) {
            if (line.startsWith("```")) {
                inside = line.equals("```java");
            } else if (inside && !line.isBlank()) {
                lines.add(line.strip());
            }
        }
        return lines;
    }

    private static long answer(DeltaViews x, String name, String text, Map<String, Integer> numbers)
            throws ReflectiveOperationException {
        List<Object> given = new ArrayList<>();
        for (String one : text.isEmpty() ? new String[0] : text.split(", ")) {
            given.add(numbers.containsKey(one) ? numbers.get(one) : Integer.valueOf(one));
        }
        return ((Number) methods().get(name).invoke(x, given.toArray())).longValue();
    }

    private static Map<String, Method> methods() {
        Map<String, Method> methods = new HashMap<>();
        for (Method method : DeltaViews.class.getMethods()) {
            if (method.getDeclaringClass() == DeltaViews.class) {
                methods.put(method.getName(), method);
            }
        }
        return methods;
    }

    private static void testsThatAreNamed(String readme) throws IOException {
        Set<String> named = new TreeSet<>();
        for (Matcher test = TEST.matcher(readme); test.find();) {
            named.add(test.group(1));
        }
        Set<String> there = new TreeSet<>();
        try (DirectoryStream<Path> files =
                Files.newDirectoryStream(Path.of("src/test/java"), "*Test.java")) {
            for (Path file : files) {
                there.add(file.getFileName().toString().replace(".java", ""));
            }
        }
        Check.same("what README.md names", named.toString(), there.toString());
    }

    private static void methodsThatAreNamed(String readme) {
        for (String name : methods().keySet()) {
            Check.holds(name + " stands in README.md",
                    readme.contains("`" + name + "`") || readme.contains("`" + name + "("));
        }
    }
}
