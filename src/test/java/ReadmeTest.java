import java.io.IOException;
import java.lang.reflect.Method;
import java.lang.reflect.Modifier;
import java.nio.file.Files;
import java.nio.file.Path;
import java.util.Set;
import java.util.TreeSet;
import java.util.regex.Matcher;
import java.util.regex.Pattern;
import java.util.stream.Collectors;
import java.util.stream.Stream;

/** README.md tells of all calls and tests there are, and of no others; its examples are tested by ReadmeExamples. */
public final class ReadmeTest {
    private static final Path TESTS = Path.of("src/test/java");

    public static void main(String[] args) throws IOException {
        String page = Files.readString(Path.of("README.md"));
        callsAreNamed(page);
        testsAreNamed(page);
        Checks.due("README.md tells of .ci/run", page.contains("\n    .ci/run\n"), true);
        Checks.due(".ci/run can be executed", Files.isExecutable(Path.of(".ci/run")), true);
        Checks.due("README.md tells of NONE", page.contains("`NONE` (" + AccessSpread.NONE + ")"), true);
        Checks.end();
    }

    private static void callsAreNamed(String page) {
        Set<String> want = new TreeSet<>();
        for (Method method : AccessSpread.class.getDeclaredMethods()) {
            if (Modifier.isPublic(method.getModifiers())) {
                want.add(method.getName());
            }
        }
        String table = page.substring(page.indexOf("| calls |"), page.indexOf("## How to run its tests"));
        String firstColumn = Pattern.compile("^(\\|[^|]*\\|).*$", Pattern.MULTILINE).matcher(table.split("\n\n")[0]).replaceAll("$1");
        Checks.dueText("the calls of README.md are", found("`(\\w+)`", firstColumn).toString(), want.toString());
    }

    private static void testsAreNamed(String page) throws IOException {
        try (Stream<Path> files = Files.list(TESTS)) {
            Set<String> want = files.map(file -> file.getFileName().toString()).filter(name -> name.endsWith("Test.java"))
                .map(name -> name.replace(".java", "")).collect(Collectors.toCollection(TreeSet::new));
            Checks.dueText("the tests of README.md are", found("(?m)^\\| `(\\w+Test)` \\|", page).toString(), want.toString());
        }
    }

    private static Set<String> found(String pattern, String text) {
        Set<String> all = new TreeSet<>();
        Matcher matcher = Pattern.compile(pattern).matcher(text);
        while (matcher.find()) {
            all.add(matcher.group(1));
        }
        return all;
    }
}
