import java.io.File;
import java.io.IOException;
import java.lang.reflect.Method;
import java.lang.reflect.Modifier;
import java.nio.file.Files;
import java.nio.file.Path;
import java.util.ArrayList;
import java.util.List;
import java.util.Set;
import java.util.TreeSet;
import java.util.regex.Matcher;
import java.util.regex.Pattern;

/** What README.md says holds: its commands run its example, the answers are those behind the lines. */
final class ReadmeTest {
    private static final Path ROOM = Path.of("build/readme");
    private static final String CLASS = "src/main/java/FarBanks.java";
    private static final Path TESTS = Path.of("src/test/java");

    public static void main(String[] args) throws ReflectiveOperationException, IOException, InterruptedException {
        Check check = new Check();
        check.promise("README.md");
        String page = Files.readString(Path.of("README.md"));
        example(check, block(page, "java"), block(page, "sh"));
        calls(check, page);
        constants(check, page);
        tests(check, page);
        check.close();
    }

    private static String block(String page, String kind) {
        Matcher matcher = Pattern.compile("(?s)```" + kind + "\n(.*?)```").matcher(page);
        return matcher.find() ? matcher.group(1) : "";
    }

    private static List<String> found(String text, String pattern) {
        List<String> parts = new ArrayList<>();
        Matcher matcher = Pattern.compile(pattern, Pattern.MULTILINE).matcher(text);
        while (matcher.find()) {
            parts.add(matcher.group(1));
        }
        return parts;
    }

    private static void example(Check check, String program, String commands) throws IOException, InterruptedException {
        List<String> due = found(program, "System\\.out\\.println\\(.*\\);\\s+// (-?\\d+): \\S");
        check.due("lines of the example with an answer", due.size(), program.split("println").length - 1);
        check.holds("the example tells nothing", !due.isEmpty());
        check.holds("the class is not compiled: " + commands, commands.contains("javac") && commands.contains(CLASS));
        Files.createDirectories(ROOM.resolve(CLASS).getParent());
        Files.write(ROOM.resolve(CLASS), Files.readAllBytes(Path.of(CLASS)));
        Files.writeString(ROOM.resolve("Example.java"), program);
        Path told = ROOM.resolve("told");
        ProcessBuilder builder = new ProcessBuilder("sh", "-e", "-c", commands).directory(ROOM.toFile());
        Process process = builder.redirectErrorStream(true).redirectOutput(told.toFile()).start();
        check.due("exit code of " + commands, process.waitFor(), 0);
        List<String> lines = Files.readAllLines(told);
        check.holds("the example tells " + lines + ", due is " + due, lines.equals(due));
    }

    private static void calls(Check check, String page) {
        Set<String> told = new TreeSet<>();
        for (String call : found(page, "^\\| `(\\w+\\([^`]*\\))` \\| \\S")) {
            int arguments = call.endsWith("()") ? 0 : call.split(",").length;
            told.add(call.substring(0, call.indexOf('(')) + " of " + arguments);
        }
        Set<String> seen = new TreeSet<>(Set.of("FarBanks of 0"));
        for (Method method : FarBanks.class.getDeclaredMethods()) {
            if (Modifier.isPublic(method.getModifiers())) {
                seen.add(method.getName() + " of " + method.getParameterCount());
            }
        }
        check.holds("calls " + told + ", due are " + seen, told.equals(seen));
    }

    private static void constants(Check check, String page) throws ReflectiveOperationException {
        List<String> names = found(page, "^\\| `(\\w+)` \\| -\\d+ \\| \\S");
        List<String> values = found(page, "^\\| `\\w+` \\| (-\\d+) \\| \\S");
        check.due("constants", names.size(), 5);
        for (int index = 0; index < names.size(); index++) {
            int value = FarBanks.class.getField(names.get(index)).getInt(null);
            check.due("value of " + names.get(index), Integer.parseInt(values.get(index)), value);
        }
    }

    private static void tests(Check check, String page) {
        Set<String> seen = new TreeSet<>();
        for (File file : TESTS.toFile().listFiles()) {
            if (file.getName().endsWith("Test.java")) {
                seen.add(file.getName().replace(".java", ""));
            }
        }
        Set<String> told = new TreeSet<>(found(page, "^\\| `(\\w+Test)` \\| \\S"));
        check.holds("tests " + told + ", due are " + seen, told.equals(seen));
        check.holds("does not tell how the tests are run", page.contains("```sh\n.ci/run\n```"));
        check.holds(".ci/run can't be run", Path.of(".ci/run").toFile().canExecute());
    }
}
