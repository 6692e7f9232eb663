import java.nio.file.Files;
import java.nio.file.Path;
import java.util.ArrayList;
import java.util.List;
import java.util.regex.Matcher;
import java.util.regex.Pattern;

/** Prints the Java lines of a README as a test of the form of those under ../shared/tests. */
public final class ReadmeProgram {
    /** "x.visit(0);  // 20: what is smelt": call, name, answer. */
    private static final Pattern CALL = Pattern.compile("(x\\.(\\w+)\\([^)]*\\));\\s+// ((?:RoseLane\\.)?\\w+|-\\d+)(?:: .*)?");

    private ReadmeProgram() {
    }

    public static void main(String[] args) throws Exception {
        StringBuilder program = new StringBuilder("public final class ReadmeRuns {\n  private static int wrong = 0;\n"
            + "  private static void due(String call, int got, int want) {\n"
            + "    if (got != want) { wrong++; System.out.println(\"README: \" + call + \" answered \" + got + \", told is \" + want); }\n"
            + "  }\n  public static void main(String[] args) {\n");
        for (String line : lines(Path.of(args[0]))) {
            Matcher told = told(line);
            program.append("    ");
            if (told.matches()) {
                program.append("due(\"").append(told.group(1)).append("\", ").append(told.group(1)).append(", ")
                    .append(told.group(3)).append(");\n");
            } else {
                program.append(line).append('\n');
            }
        }
        System.out.print(program.append("    if (wrong != 0) System.exit(1);\n  }\n}\n"));
    }

    static Matcher told(String line) {
        return CALL.matcher(line);
    }

    static List<String> lines(Path readme) throws Exception {
        List<String> lines = new ArrayList<>();
        boolean isJava = false;
        for (String line : Files.readAllLines(readme)) {
            if (line.startsWith("```")) {
                isJava = line.equals("```java");
            } else if (isJava) {
                lines.add(line);
            }
        }
        return lines;
    }
}
