import java.io.IOException;
import java.io.UncheckedIOException;
import java.nio.file.Files;
import java.nio.file.Path;
import java.util.Arrays;
import java.util.HashMap;
import java.util.List;
import java.util.Map;
import java.util.Set;
import java.util.TreeSet;
import java.util.regex.Matcher;
import java.util.regex.Pattern;
import java.util.stream.Collectors;
import java.util.stream.Stream;

/** What README.md and TESTS.md say of the class and of the tests holds. */
public final class PagesTest {
    private static final Path TESTS = Path.of("src/test/java");
    private static final Pattern STEP = Pattern.compile("(?:int (\\w+) = )?walk\\.(\\w+)\\((.*)\\); +// (-?\\d+)(?::? .*)?");
    private static final Pattern NAMED_TEST = Pattern.compile("`(?:(\\w+Test)\\.)?(\\w+\\*?)`");

    public static void main(String[] args) throws IOException {
        String readme = Files.readString(Path.of("README.md"));
        example(readme);
        tableNamesEveryTest(readme);
        namedTests(Files.readAllLines(Path.of("TESTS.md")));
        Due.finish("PagesTest");
    }

    /** The first Java of the README, as a run of calls: each line with a call tells the answer behind "//". */
    private static void example(String readme) {
        String code = readme.substring(readme.indexOf("```java\n") + 8);
        code = code.substring(0, code.indexOf("```"));
        Map<String, String> variables = new HashMap<>();
        StringBuilder run = new StringBuilder();
        for (String line : code.split("\n")) {
            Matcher step = STEP.matcher(line);
            if (step.matches()) {
                run.append(step.group(2)).append('(').append(plain(step.group(3), variables)).append(") = ")
                    .append(step.group(4)).append('\n');
                variables.put(step.group(1), step.group(4));
            } else {
                Due.holds("README's example: " + line, line.isEmpty() || line.startsWith("// ") || line.equals("RopeWalk walk = new RopeWalk();"));
            }
        }
        Due.holds("README's example has calls", run.length() > 0);
        Script.run("README's example", run.toString());
    }

    /** Arguments as Script reads them. */
    private static String plain(String arguments, Map<String, String> variables) {
        return Arrays.stream(arguments.split(", "))
            .map(one -> variables.getOrDefault(one, one.replace("RopeWalk.", "").replaceFirst("(?<=\\d)L$", "")))
            .collect(Collectors.joining(", "));
    }

    private static void tableNamesEveryTest(String readme) throws IOException {
        Set<String> named = new TreeSet<>();
        Matcher row = Pattern.compile("(?m)^\\| `(\\w+)` \\|").matcher(readme);
        while (row.find()) {
            named.add(row.group(1));
        }
        Set<String> there = new TreeSet<>();
        try (Stream<Path> files = Files.list(TESTS)) {
            files.map(file -> file.getFileName().toString()).filter(name -> name.endsWith("Test.java"))
                .forEach(name -> there.add(name.replace(".java", "")));
        }
        Due.is("the tests that README's table names", named.toString(), there.toString());
    }

    /** The right column of TESTS.md: `File.method`, and behind it `method` of the same file; `method*` is a beginning. */
    private static void namedTests(List<String> lines) {
        int found = 0;
        for (String line : lines) {
            if (!line.startsWith("| ") || line.contains("---")) {
                continue;
            }
            String file = "";
            Matcher named = NAMED_TEST.matcher(line.substring(line.indexOf(" | ") + 2));
            while (named.find()) {
                boolean whole = Files.exists(TESTS.resolve(named.group(2) + ".java"));
                file = named.group(1) == null ? file : named.group(1);
                Due.holds("TESTS.md: " + named.group(), whole || hasMethod(file, named.group(2)));
                found++;
            }
        }
        Due.holds("TESTS.md names tests", found > 0);
    }

    private static boolean hasMethod(String file, String name) {
        try {
            String code = Files.readString(TESTS.resolve(file + ".java"));
            return Pattern.compile("void " + name.replace("*", "\\w*") + "\\(").matcher(code).find();
        } catch (IOException e) {
            throw new UncheckedIOException(e);
        }
    }
}
