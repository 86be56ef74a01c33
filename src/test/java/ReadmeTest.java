import java.io.IOException;
import java.nio.file.Files;
import java.nio.file.Path;
import java.util.List;
import java.util.TreeSet;
import java.util.regex.Matcher;
import java.util.regex.Pattern;
import java.util.stream.Collectors;
import java.util.stream.Stream;

/** The example of README.md, line by line, and its table of tests. */
public final class ReadmeTest {
    private static final Due DUE = new Due("ReadmeTest");
    private static final Pattern LINE = Pattern.compile("x\\.(\\w+\\([^)]*\\)); +// (-?\\d+|[A-Z_]+)\\b.*");
    private static final Pattern ROW = Pattern.compile("\\| `(\\w+Test)\\b.*");

    public static void main(String[] args) throws IOException, ReflectiveOperationException {
        Path readme = Path.of(System.getProperty("project.readme", "README.md"));
        List<String> lines = Files.readAllLines(readme);
        example(lines);
        tableOfTests(lines, readme.toAbsolutePath().resolveSibling("src/test/java"));
        DUE.end();
    }

    private static void example(List<String> lines) throws ReflectiveOperationException {
        TrafficMatrix x = null;
        int calls = 0;
        for (int i = lines.indexOf("```java") + 1; i < lines.size() && !lines.get(i).equals("```"); i++) {
            if (lines.get(i).startsWith("TrafficMatrix x = new TrafficMatrix();")) {
                x = new TrafficMatrix();
            } else if (!lines.get(i).isBlank()) {
                line(x, lines.get(i));
                calls++;
            }
        }
        DUE.is("README.md has an example with calls", calls > 0 ? 1 : 0, 1);
    }

    private static void line(TrafficMatrix x, String line) throws ReflectiveOperationException {
        Matcher matcher = LINE.matcher(line);
        TextCall call = matcher.matches() ? TextCall.of(matcher.group(1), matcher.group(2)) : null;
        DUE.is("'" + line + "' is a call of an object with its answer", call != null && x != null ? 1 : 0, 1);
        if (call != null && x != null) {
            DUE.is("README.md: " + call.told(), call.answerOf(x), call.want());
        }
    }

    private static void tableOfTests(List<String> lines, Path folder) throws IOException {
        TreeSet<String> told = new TreeSet<>();
        for (String line : lines) {
            Matcher matcher = ROW.matcher(line);
            if (matcher.matches()) {
                told.add(matcher.group(1));
            }
        }
        try (Stream<Path> files = Files.list(folder)) {
            TreeSet<String> there = files.map(file -> file.getFileName().toString())
                    .filter(name -> name.endsWith("Test.java"))
                    .map(name -> name.substring(0, name.length() - ".java".length()))
                    .collect(Collectors.toCollection(TreeSet::new));
            DUE.is("README.md tells of " + told + ", there are " + there, told.equals(there) ? 1 : 0, 1);
        }
    }
}
