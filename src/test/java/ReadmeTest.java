import java.io.IOException;
import java.lang.reflect.Method;
import java.lang.reflect.Modifier;
import java.nio.file.Files;
import java.nio.file.Path;
import java.util.ArrayList;
import java.util.List;
import java.util.Set;
import java.util.TreeSet;
import java.util.regex.Matcher;
import java.util.regex.Pattern;
import java.util.stream.Stream;

/**
 * What README.md says is so: the answers of its example, which shows every call, and its list of tests. It is run from
 * the project's directory.
 */
public final class ReadmeTest {
    private static final Path README = Path.of("README.md");
    private static final Path TESTS = Path.of("src/test/java");
    private static final Pattern CALL = Pattern.compile("x\\.(\\w+)\\(([-\\w, ]*)\\);\\s+// ([^:]+):.*");
    private static final Pattern LISTED = Pattern.compile("- `(\\w+Test)`: .*");

    private final Checks checks = new Checks();
    private final List<String> lines;

    private ReadmeTest() throws IOException {
        lines = Files.readAllLines(README);
    }

    public static void main(String[] args) throws IOException {
        ReadmeTest test = new ReadmeTest();
        test.example();
        test.listOfTests();
        test.checks.end("ReadmeTest");
    }

    private void example() {
        Run run = new Run(checks, "README.md");
        Set<String> shown = new TreeSet<>();
        List<String> block = javaBlock();
        checks.due("README.md: the example's first line", block.get(0), "FamilyShelf x = new FamilyShelf();");
        for (String line : block.subList(1, block.size())) {
            Matcher call = CALL.matcher(line);
            checks.due("README.md: a call and its answer: " + line, call.matches(), true);
            if (call.matches()) {
                run.due(call.group(3), call.group(1), numbers(call.group(2)));
                shown.add(call.group(1));
            }
        }
        checks.due("README.md: the calls that it shows", shown.toString(), face().toString());
    }

    private static Set<String> face() {
        Set<String> names = new TreeSet<>();
        for (Method method : FamilyShelf.class.getDeclaredMethods()) {
            if (Modifier.isPublic(method.getModifiers())) {
                names.add(method.getName());
            }
        }
        return names;
    }

    private List<String> javaBlock() {
        int begin = lines.indexOf("```java") + 1;
        int length = lines.subList(begin, lines.size()).indexOf("```");
        return lines.subList(begin, begin + length);
    }

    private static int[] numbers(String written) {
        return Stream.of(written.split(", ")).mapToInt(ReadmeTest::number).toArray();
    }

    private static int number(String written) {
        if (written.equals("true") || written.equals("false")) {
            return written.equals("true") ? 1 : 0;
        }
        return Integer.parseInt(written);
    }

    private void listOfTests() throws IOException {
        List<String> listed = new ArrayList<>();
        for (String line : lines) {
            Matcher item = LISTED.matcher(line);
            if (item.matches()) {
                listed.add(item.group(1) + ".java");
            }
        }
        List<String> there;
        try (Stream<Path> files = Files.list(TESTS)) {
            there = files.map(file -> file.getFileName().toString()).filter(name -> name.endsWith("Test.java")).toList();
        }
        checks.due("README.md: its list of tests", new TreeSet<>(listed).toString(), new TreeSet<>(there).toString());
    }
}
