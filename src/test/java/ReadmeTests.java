import java.io.IOException;
import java.lang.reflect.Field;
import java.lang.reflect.Method;
import java.lang.reflect.Modifier;
import java.nio.charset.StandardCharsets;
import java.nio.file.Files;
import java.nio.file.Path;
import java.util.ArrayList;
import java.util.List;
import java.util.TreeSet;
import java.util.regex.Matcher;
import java.util.regex.Pattern;

/** Tests of README.md: its example answers as it says, and it misses no call, constant or test. */
public final class ReadmeTests {
    private static final Path README = Path.of("README.md");
    private static final Path TESTS = Path.of("src/test/java");
    private static final Pattern EXAMPLE = Pattern.compile("```java\n(.*?)```", Pattern.DOTALL);
    private static final Pattern CALL = Pattern.compile("canal\\.(\\w+)\\(([^)]*)\\); *// (-?\\d+|[A-Z_]+)(:.*)?");
    private static final Pattern TEXT = Pattern.compile("for \\(char each : \"([^\"]*)\"\\.toCharArray\\(\\)\\) \\{");
    private static final Pattern CALL_NAMED = Pattern.compile("`(\\w+)\\(([\\w, ]*)\\)`");
    private static final Pattern CONSTANT_ROW = Pattern.compile("(?m)^\\| `([A-Z_]+)` \\|");
    private static final Pattern TEST_ROW = Pattern.compile("(?m)^\\| `(\\w+Tests)` \\|");
    private static int wrong = 0;

    public static void main(String[] args) throws IOException {
        String readme = Files.readString(README, StandardCharsets.UTF_8);
        example(readme);
        calls(readme);
        constants(readme);
        tests(readme);
        System.out.println(wrong + " faults");
        System.exit(wrong == 0 ? 0 : 1);
    }

    private static void fault(String what) {
        wrong++;
        System.out.println(what);
    }

    private static void example(String readme) {
        Matcher found = EXAMPLE.matcher(readme);
        List<String> script = new ArrayList<>();
        if (found.find()) {
            for (String line : found.group(1).split("\n")) {
                addLine(script, line.trim());
            }
        }
        if (script.isEmpty()) {
            fault("there is no example");
        }
        for (String fault : Script.faultsOf(script)) {
            fault("the example: " + fault);
        }
    }

    private static void addLine(List<String> script, String line) {
        Matcher call = CALL.matcher(line);
        Matcher text = TEXT.matcher(line);
        if (call.matches()) {
            String arguments = call.group(2).replace(",", "");
            String told = arguments.isEmpty() ? call.group(1) : call.group(1) + " " + arguments;
            script.add(told + " = " + call.group(3));
        } else if (text.matches()) {
            script.add("text " + text.group(1));
        } else if (!line.matches("BargeLocks canal = new BargeLocks\\(\\);|canal\\.type\\(each\\);|}")) {
            fault("the example says " + line);
        }
    }

    private static void calls(String readme) {
        TreeSet<String> want = new TreeSet<>();
        for (Method each : BargeLocks.class.getDeclaredMethods()) {
            if (Modifier.isPublic(each.getModifiers())) {
                want.add(each.getName() + " of " + each.getParameterCount());
            }
        }
        TreeSet<String> got = new TreeSet<>();
        Matcher found = CALL_NAMED.matcher(readme);
        while (found.find()) {
            String arguments = found.group(2);
            got.add(found.group(1) + " of " + (arguments.isEmpty() ? 0 : arguments.split(",").length));
        }
        compare("calls", got, want);
    }

    private static void constants(String readme) {
        TreeSet<String> want = new TreeSet<>();
        for (Field each : BargeLocks.class.getDeclaredFields()) {
            if (Modifier.isPublic(each.getModifiers())) {
                want.add(each.getName());
            }
        }
        compare("constants", groups(CONSTANT_ROW, readme), want);
    }

    private static void tests(String readme) throws IOException {
        TreeSet<String> want = new TreeSet<>();
        try (var files = Files.list(TESTS)) {
            files.map(file -> file.getFileName().toString()).filter(name -> name.endsWith("Tests.java"))
                    .forEach(name -> want.add(name.replace(".java", "")));
        }
        compare("tests", groups(TEST_ROW, readme), want);
    }

    private static TreeSet<String> groups(Pattern pattern, String readme) {
        TreeSet<String> found = new TreeSet<>();
        Matcher matcher = pattern.matcher(readme);
        while (matcher.find()) {
            found.add(matcher.group(1));
        }
        return found;
    }

    private static void compare(String what, TreeSet<String> got, TreeSet<String> want) {
        if (!got.equals(want)) {
            fault("the " + what + " are " + want + ", README.md says " + got);
        }
    }
}
