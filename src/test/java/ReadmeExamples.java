import java.io.IOException;
import java.nio.file.Files;
import java.nio.file.Path;
import java.util.ArrayList;
import java.util.List;
import java.util.regex.Matcher;
import java.util.regex.Pattern;

/** Prints a program of README.md's examples, in which each call that tells its answer in a comment is checked. */
public final class ReadmeExamples {
    private static final String VALUE = "(-?\\d+|true|false|\\w+Exception)\\b";
    private static final Pattern TELLS = Pattern.compile(".*// " + VALUE + ".*");
    private static final Pattern CALL =
        Pattern.compile("\\s*(?:(?:int|boolean) (\\w+) = )?(access\\.\\w+\\([^;]*\\));\\s*// " + VALUE + ".*");

    private ReadmeExamples() {
    }

    public static void main(String[] args) throws IOException {
        List<String> lines = codeOf(Files.readAllLines(Path.of("README.md")));
        System.out.println("public final class ReadmeProgram {");
        System.out.println("    public static void main(String[] args) {");
        int told = 0;
        for (String line : lines) {
            if (TELLS.matcher(line).matches()) {
                told++;
                System.out.println(checked(line));
            } else {
                System.out.println(line);
            }
        }
        System.out.println("Checks.end();\n    }\n}");
        if (told == 0) {
            throw new IllegalStateException("README.md has no example that tells an answer");
        }
    }

    private static List<String> codeOf(List<String> page) {
        List<String> code = new ArrayList<>();
        boolean isCode = false;
        for (String line : page) {
            if (line.startsWith("```")) {
                isCode = !isCode;
                if (!line.equals(isCode ? "```java" : "```")) {
                    throw new IllegalStateException("README.md has a block of which it is not said that it is java");
                }
            } else if (isCode) {
                code.add(line);
            }
        }
        return code;
    }

    private static String checked(String line) {
        Matcher call = CALL.matcher(line);
        if (!call.matches()) {
            throw new IllegalStateException("an answer, but no call that could be checked: " + line);
        }
        String made = call.group(1);
        String told = "\"README.md: " + call.group(2).replace("\\", "\\\\").replace("\"", "\\\"") + "\"";
        String value = call.group(3);
        if (value.endsWith("Exception")) {
            return "Checks.dueThrow(" + told + ", Checks." + kindOf(value) + ", () -> " + call.group(2) + ");";
        }
        String first = made == null ? "" : line + "\n";
        return first + "Checks.due(" + told + ", " + (made == null ? call.group(2) : made) + ", " + value + ");";
    }

    private static String kindOf(String exception) {
        switch (exception) {
            case "IndexOutOfBoundsException":
                return "INDEX";
            case "IllegalArgumentException":
                return "ARGUMENT";
            case "IllegalStateException":
                return "STATE";
            default:
                throw new IllegalStateException("the document has no " + exception);
        }
    }
}
