import java.io.IOException;
import java.lang.reflect.Method;
import java.lang.reflect.Modifier;
import java.net.URL;
import java.net.URLClassLoader;
import java.nio.file.Files;
import java.nio.file.Path;
import java.util.ArrayList;
import java.util.List;
import java.util.Set;
import java.util.TreeSet;
import java.util.regex.Matcher;
import java.util.regex.Pattern;
import java.util.stream.Collectors;
import java.util.stream.Stream;
import javax.tools.ToolProvider;

/**
 * What README.md shows: its example compiles as it stands and answers as it says there, each call of the face is in the
 * example and in a table, the tests it tells of are those that there are, and what it says to run can be run.
 */
public final class ReadmeTest {
    private static final Path TESTS = Path.of("src/test/java");
    private static final Path SOURCE = Path.of("src/main/java/ShootingDays.java");
    /** A call of the example and its answer; the call may be kept in a variable. */
    private static final Pattern CALL =
        Pattern.compile("(?:int \\w+ = )?(x\\.(\\w+)\\([^;]*\\)); +// -> (-?\\d+|NONE|BAD|STATE|FULL)(: .+)?");

    private static final List<String> faults = new ArrayList<>();

    public static void main(String[] args) throws Exception {
        String text = Files.readString(Path.of("README.md"));
        for (String example : blocks(text, "java")) {
            checkExample(example.lines().toList());
        }
        checkTables(text);
        checkTests(text);
        checkCommands(blocks(text, "sh"));
        faults.forEach(System.out::println);
        System.out.println(faults.isEmpty() ? "the page is as due" : faults.size() + " faults");
        if (!faults.isEmpty()) {
            System.exit(1);
        }
    }

    private static void must(boolean holds, String fault) {
        if (!holds) {
            faults.add(fault);
        }
    }

    private static List<String> blocks(String text, String language) {
        List<String> blocks = Pattern.compile("(?s)```" + language + "\n(.*?)```").matcher(text).results()
            .map(block -> block.group(1)).toList();
        must(!blocks.isEmpty(), "no " + language + " is shown");
        return blocks;
    }

    private static void checkExample(List<String> lines) throws Exception {
        Set<String> shown = new TreeSet<>();
        List<String> checks = new ArrayList<>();
        for (String line : lines) {
            Matcher call = CALL.matcher(line);
            if (call.matches()) {
                shown.add(call.group(2));
                checks.add(checkOf(call.group(1), call.group(3)));
            } else {
                must(!line.contains("x."), "no answer is told: " + line);
                checks.add(line);
            }
        }
        must(shown.equals(faceNames()), "the example has " + shown + ", due is " + faceNames());
        Path folder = compile(lines, checks);
        if (folder != null) {
            run(folder);
        }
    }

    private static String checkOf(String call, String answer) {
        String due = Character.isLetter(answer.charAt(0)) ? "ShootingDays." + answer : answer;
        return "due(faults, \"" + call + "\", " + call + ", " + due + ");";
    }

    private static Set<String> faceNames() {
        return Stream.of(ShootingDays.class.getDeclaredMethods())
            .filter(method -> Modifier.isPublic(method.getModifiers())).map(Method::getName)
            .collect(Collectors.toCollection(TreeSet::new));
    }

    /** Both the lines as they are shown and those that look at the answers; null if they do not compile. */
    private static Path compile(List<String> lines, List<String> checks) throws IOException {
        Path folder = Files.createDirectories(Path.of("build", "readme"));
        Path file = folder.resolve("ReadmeUse.java");
        Files.writeString(file, String.join("\n",
            "public final class ReadmeUse {",
            "public static void asShown() {", String.join("\n", lines), "}",
            "public static void checked(java.util.List<String> faults) {", String.join("\n", checks), "}",
            "static void due(java.util.List<String> faults, String call, int got, int want) {",
            "if (got != want) { faults.add(call + \" answered \" + got + \", README.md says \" + want); }", "}", "}", ""));
        int result = ToolProvider.getSystemJavaCompiler().run(null, null, null,
            "-cp", System.getProperty("java.class.path"), "-d", folder.toString(), file.toString());
        must(result == 0, "the example does not compile");
        return result == 0 ? folder : null;
    }

    private static void run(Path folder) throws Exception {
        try (URLClassLoader loader = new URLClassLoader(new URL[] {folder.toUri().toURL()})) {
            Class<?> use = loader.loadClass("ReadmeUse");
            use.getMethod("asShown").invoke(null);
            use.getMethod("checked", List.class).invoke(null, faults);
        }
    }

    /** Each call stands at the head of one row, with the parameters that it has in the program. */
    private static void checkTables(String text) throws IOException {
        Matcher methods = Pattern.compile("(?m)^    public int (\\w+\\(.*\\)) \\{").matcher(Files.readString(SOURCE));
        int found = 0;
        while (methods.find()) {
            found++;
            String head = "\n| `" + methods.group(1).replace("int ", "") + "` | ";
            must(text.split(Pattern.quote(head), -1).length == 2, "not just one row:" + head);
        }
        must(found == faceNames().size(), found + " methods in the text of the program");
    }

    private static void checkTests(String text) throws IOException {
        Set<String> told = Pattern.compile("(?m)^- `(\\w+)`: ").matcher(text).results()
            .map(test -> test.group(1)).collect(Collectors.toCollection(TreeSet::new));
        try (Stream<Path> files = Files.list(TESTS)) {
            Set<String> there = files.map(file -> file.getFileName().toString().replace(".java", ""))
                .collect(Collectors.toCollection(TreeSet::new));
            must(told.equals(there), "it tells of the tests " + told + ", there are " + there);
        }
    }

    private static void checkCommands(List<String> blocks) {
        for (String command : String.join("", blocks).lines().toList()) {
            must(Files.isExecutable(Path.of(command)), "it can not be run: " + command);
        }
    }
}
