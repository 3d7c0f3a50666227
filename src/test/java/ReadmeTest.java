import java.io.IOException;
import java.lang.reflect.Method;
import java.lang.reflect.Modifier;
import java.nio.file.Files;
import java.nio.file.Path;
import java.util.ArrayList;
import java.util.Arrays;
import java.util.HashMap;
import java.util.List;
import java.util.Map;
import java.util.Set;
import java.util.TreeSet;
import java.util.function.Predicate;
import java.util.regex.Matcher;
import java.util.regex.Pattern;

/** README.md shows an example that does what it says, every call of the face, and every test. */
public final class ReadmeTest {
    private static final Path README = Path.of("README.md");
    private static final Path TESTS = Path.of("src/test/java");
    private static final Pattern ANSWER_ROW =
            Pattern.compile("int (\\w+) = x\\..*// (-?[0-9]+)(:.*)?");
    private static final Pattern CALL_ROW =
            Pattern.compile("\\| `(\\w+)\\(([\\w, ]*)\\)` \\| .* \\| ([a-z, ]+) \\|");
    private static final Pattern TEST_ROW = Pattern.compile("\\| `(\\w+Test)` \\| .* \\|");

    private ReadmeTest() {
    }

    public static void main(String[] args) throws IOException {
        List<String> readme = Files.readAllLines(README);
        List<String> own = Files.readAllLines(TESTS.resolve("ReadmeTest.java"));
        Check.same("the example",
                codeBetween(readme, "```java"::equals, "```"::equals),
                codeBetween(own, "        // The example begins."::equals,
                        "        // The example ends."::equals));
        Check.same("the example's answers", answersRemarked(readme), example());
        Check.same("the calls", rows(readme, CALL_ROW, ReadmeTest::callInReadme), callsOfFace());
        Check.same("the tests", rows(readme, TEST_ROW, row -> row.group(1)), tests());
        Check.end();
    }

    /** Makes the calls of the example, and answers what each of its variables holds then. */
    private static Map<String, Integer> example() {
        // The example begins.
        WholeRegisters x = new WholeRegisters();
        x.set(0, -1000000007L);
        x.append(0, 5);
        x.multiply(1, 0, 0);
        x.root(2, 1);
        x.divide(3, 4, 1, 0);
        int order = x.compare(3, 2);
        int far = x.compareSizes(3, 2);
        int rest = x.sign(4);
        int bits = x.bits(0);
        int low = x.word(0, 0);
        int high = x.word(0, 1);
        int day = x.residue(0, 7);
        // The example ends.
        return Map.of("order", order, "far", far, "rest", rest, "bits", bits, "low", low,
                "high", high, "day", day);
    }

    /** The lines between two marks, without what is remarked in them. */
    private static List<String> codeBetween(
            List<String> lines, Predicate<String> begin, Predicate<String> end) {
        List<String> code = new ArrayList<>();
        boolean inside = false;
        for (String line : lines) {
            if (inside && end.test(line)) {
                break;
            }
            if (inside) {
                code.add(line.replaceFirst("//.*", "").strip());
            }
            inside |= begin.test(line);
        }
        return code;
    }

    /** The answers as the example's remarks tell them. */
    private static Map<String, Integer> answersRemarked(List<String> readme) {
        Map<String, Integer> answers = new HashMap<>();
        for (String line : readme) {
            Matcher row = ANSWER_ROW.matcher(line);
            if (row.matches()) {
                answers.put(row.group(1), Integer.valueOf(row.group(2)));
            }
        }
        return answers;
    }

    private interface RowText {
        String of(Matcher row);
    }

    private static Set<String> rows(List<String> lines, Pattern kind, RowText text) {
        Set<String> found = new TreeSet<>();
        for (String line : lines) {
            Matcher row = kind.matcher(line);
            if (row.matches()) {
                found.add(text.of(row));
            }
        }
        return found;
    }

    private static String callInReadme(Matcher row) {
        return row.group(1) + " of " + row.group(2).split(", ").length + " throws " + row.group(3);
    }

    private static Set<String> callsOfFace() {
        Set<String> calls = new TreeSet<>();
        for (Method method : WholeRegisters.class.getDeclaredMethods()) {
            if (Modifier.isPublic(method.getModifiers())) {
                calls.add(method.getName() + " of " + method.getParameterCount() + " throws "
                        + shortNames(method.getExceptionTypes()));
            }
        }
        return calls;
    }

    private static String shortNames(Class<?>[] thrown) {
        return String.join(", ", Arrays.stream(thrown).map(ReadmeTest::shortName).toList());
    }

    private static String shortName(Class<?> thrown) {
        return switch (thrown.getSimpleName()) {
            case "IndexOutOfBoundsException" -> "index";
            case "IllegalStateException" -> "state";
            case "IllegalArgumentException" -> "argument";
            default -> thrown.getName();
        };
    }

    private static Set<String> tests() throws IOException {
        Set<String> names = new TreeSet<>();
        try (var files = Files.list(TESTS)) {
            files.map(file -> file.getFileName().toString())
                    .filter(name -> name.endsWith("Test.java"))
                    .forEach(name -> names.add(name.replace(".java", "")));
        }
        return names;
    }
}
