import java.io.IOException;
import java.nio.file.Files;
import java.nio.file.Path;
import java.util.ArrayList;
import java.util.List;
import java.util.Set;
import java.util.TreeSet;
import java.util.regex.Matcher;
import java.util.regex.Pattern;
import java.util.stream.Stream;

/** README.md tells the truth: its example answers so, and it names every call and every test. */
public final class ReadmeTest {
    private static final Pattern EXAMPLE = Pattern.compile("s\\.(\\w+)\\(([^)]*)\\);\\s*// (-?\\d+): .*");
    private static final Pattern TABLE_ROW = Pattern.compile("\\| `(\\w+)\\(([^)]*)\\)` \\|.*");
    private static final Pattern TEST_ROW = Pattern.compile("- `(\\w+)`: .*");

    private static Call call(String name, String numbers) {
        String[] parts = numbers.isEmpty() ? new String[0] : numbers.split(", ");
        int[] n = new int[3];
        for (int i = 0; i < parts.length; i++) {
            n[i] = Integer.parseInt(parts[i]);
        }
        return new Call(name, n[0], n[1], n[2], n[0], false);
    }

    private static void checkExample(List<String> lines) {
        SkinBox s = new SkinBox();
        int asked = 0;
        int told = 0;
        for (String line : lines) {
            Matcher m = EXAMPLE.matcher(line);
            if (m.matches()) {
                Call call = call(m.group(1), m.group(2));
                Due.due(call.promise(), call + " in README.md", Long.parseLong(m.group(3)), call.ask(s));
                asked++;
            }
            told += line.startsWith("s.") ? 1 : 0;
        }
        Due.due("lines of the example with an answer", asked, told);
        Due.due("there is an example", asked > 0, true);
    }

    private static List<String> found(List<String> lines, Pattern row) {
        List<String> names = new ArrayList<>();
        for (String line : lines) {
            Matcher m = row.matcher(line);
            if (m.matches()) {
                names.add(m.group(1));
            }
        }
        return names;
    }

    private static Set<String> tests() throws IOException {
        Set<String> names = new TreeSet<>();
        try (Stream<Path> files = Files.list(Path.of("src/test/java"))) {
            files.map(file -> file.getFileName().toString()).filter(name -> name.endsWith(".java"))
                    .forEach(name -> names.add(name.replace(".java", "")));
        }
        return names;
    }

    public static void main(String[] args) throws IOException {
        List<String> lines = Files.readAllLines(Path.of("README.md"));
        checkExample(lines);
        Due.due("the calls of its tables", found(lines, TABLE_ROW), Call.NAMES);
        Due.due("the tests that it names", new TreeSet<>(found(lines, TEST_ROW)), tests());
        Due.due(".ci/run can be run", Files.isExecutable(Path.of(".ci/run")), true);
        Due.end("README.md is as due");
    }
}
