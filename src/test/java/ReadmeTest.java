import java.io.IOException;
import java.lang.reflect.Method;
import java.lang.reflect.Modifier;
import java.nio.file.Files;
import java.nio.file.Path;
import java.util.ArrayList;
import java.util.Comparator;
import java.util.List;
import java.util.regex.Matcher;
import java.util.regex.Pattern;
import java.util.stream.Stream;

/** The example of README.md compiles and answers as its text says, and its tables leave out no call and no test. */
public final class ReadmeTest {
    private static final Path README = Path.of("README.md");
    private static final Path SOURCE = Path.of("src/main/java/LogWeave.java");
    private static final Path TESTS = Path.of("src/test/java");
    private static final Path RUN = Path.of(".ci/run");
    private static final Pattern EXAMPLE = Pattern.compile("(?s)```java\n(.*?)```");
    private static final Pattern ANSWER = Pattern.compile("println\\(.*\\);\\s*// ([^:]+): ");

    private ReadmeTest() {
    }

    public static void main(String[] args) throws IOException, InterruptedException {
        String readme = Files.readString(README);
        example(readme);
        calls(readme);
        tests(readme);
        failures(readme);
        Check.end();
    }

    private static void example(String readme) throws IOException, InterruptedException {
        Matcher found = EXAMPLE.matcher(readme);
        Check.same("an example", found.find(), true);
        String code = found.group(1);
        List<String> due = new ArrayList<>();
        for (String line : code.split("\n")) {
            if (line.contains("println(")) {
                Matcher answer = ANSWER.matcher(line);
                Check.same("the comment of [" + line.strip() + "] tells the answer", answer.find(), true);
                due.add(answer.group(1));
            }
        }
        Check.same("it answers", due.size() > 10, true);
        Check.same("what the example prints", printedBy(code), due);
        Check.same("the command to compile it",
                readme.contains("\n    javac -d out " + SOURCE + " Example.java\n"), true);
        Check.same("the command to run it", readme.contains("\n    java -cp out Example\n"), true);
    }

    /** What it prints, line by line, when it is compiled and run by the commands of the text, in another folder. */
    private static List<String> printedBy(String code) throws IOException, InterruptedException {
        Path folder = Files.createTempDirectory("readme");
        try {
            Path file = Files.writeString(folder.resolve("Example.java"), code);
            List<String> told = outputOf("javac", "-Xlint:all", "-Werror", "-d", folder.toString(), SOURCE.toString(),
                    file.toString());
            Check.same("what the compiler says", told, List.of());
            return outputOf("java", "-cp", folder.toString(), "Example");
        } finally {
            remove(folder);
        }
    }

    private static List<String> outputOf(String... command) throws IOException, InterruptedException {
        Process process = new ProcessBuilder(command).redirectError(ProcessBuilder.Redirect.INHERIT).start();
        String output = new String(process.getInputStream().readAllBytes());
        Check.same("what " + command[0] + " ends with", process.waitFor(), 0);
        return output.lines().toList();
    }

    private static void remove(Path folder) throws IOException {
        try (Stream<Path> files = Files.walk(folder)) {
            for (Path file : files.sorted(Comparator.reverseOrder()).toList()) {
                Files.delete(file);
            }
        }
    }

    private static boolean hasRow(String readme, String name) {
        return readme.lines().anyMatch(line -> line.startsWith("|") && line.contains("`" + name + "`"));
    }

    private static void calls(String readme) {
        for (Method method : LogWeave.class.getDeclaredMethods()) {
            if (Modifier.isPublic(method.getModifiers())) {
                Check.same("the call " + method.getName() + " is told", hasRow(readme, method.getName()), true);
            }
        }
    }

    private static void tests(String readme) throws IOException {
        List<String> names;
        try (Stream<Path> files = Files.list(TESTS)) {
            names = files.map(file -> file.getFileName().toString()).filter(name -> name.endsWith("Test.java"))
                    .map(name -> name.replace(".java", "")).sorted().toList();
        }
        for (String name : names) {
            Check.same("the test " + name + " is told", hasRow(readme, name), true);
        }
        Matcher told = Pattern.compile("(?m)^\\| `(\\w+Test)` \\|").matcher(readme);
        while (told.find()) {
            Check.same("the test " + told.group(1) + " is there", names.contains(told.group(1)), true);
        }
    }

    /** How a failure shows is told in the words of the script and of the tests. */
    private static void failures(String readme) throws IOException {
        String script = Files.readString(RUN);
        String check = Files.readString(TESTS.resolve("Check.java"));
        Check.same("the script can be run", Files.isExecutable(RUN), true);
        for (String words : new String[] {"FAILED: ", " passed, ", " failed", "== "}) {
            Check.same("[" + words + "] of the script is told", script.contains(words) && readme.contains(words), true);
        }
        for (String words : new String[] {" answered ", ", due is ", " answers looked at, ", " wrong"}) {
            Check.same("[" + words + "] of the tests is told", check.contains(words) && readme.contains(words), true);
        }
    }
}
