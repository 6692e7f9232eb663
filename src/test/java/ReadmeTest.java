import java.io.File;
import java.lang.reflect.Method;
import java.lang.reflect.Modifier;
import java.nio.file.Files;
import java.nio.file.Path;
import java.util.TreeSet;
import java.util.regex.Matcher;

/** What README.md tells; that its calls answer so, ReadmeProgram's own program tells. */
final class ReadmeTest {
    private static final Path README = Path.of("README.md");
    private static final File TESTS = new File("src/test/java");

    private ReadmeTest() {
    }

    static void run() throws Exception {
        calls();
        tests();
    }

    private static void calls() throws Exception {
        TreeSet<String> told = new TreeSet<>();
        for (String line : ReadmeProgram.lines(README)) {
            Matcher call = ReadmeProgram.told(line);
            if (call.matches()) {
                told.add(call.group(2));
            }
            boolean isCall = line.startsWith("x.");
            Due.is("README: an answer is told behind " + line, call.matches() ? 1 : 0, isCall ? 1 : 0);
        }
        for (Method method : RoseLane.class.getDeclaredMethods()) {
            if (Modifier.isPublic(method.getModifiers())) {
                Due.is("README: tells " + method.getName(), told.contains(method.getName()) ? 1 : 0, 1);
            }
        }
    }

    private static void tests() throws Exception {
        String page = Files.readString(README);
        String[] files = TESTS.list();
        Due.is("README: tests found", files != null && files.length > 0 ? 1 : 0, 1);
        for (String file : files == null ? new String[0] : files) {
            String name = file.replace(".java", "");
            Due.is("README: names " + name, page.contains("`" + name + "`") ? 1 : 0, 1);
        }
        Due.is("README: the command that runs all tests", page.contains("\n    bash .ci/run\n") ? 1 : 0, 1);
    }
}
