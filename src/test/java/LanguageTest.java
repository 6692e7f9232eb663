import java.lang.reflect.Constructor;
import java.lang.reflect.Field;
import java.lang.reflect.Method;
import java.lang.reflect.Modifier;
import java.nio.file.Files;
import java.nio.file.Path;
import java.util.TreeMap;
import java.util.TreeSet;
import java.util.regex.Matcher;
import java.util.regex.Pattern;

/** The rules of shared/LANGUAGE.md that a look at the source or at the class can tell. */
final class LanguageTest {
    private static final String[] FORBIDDEN = {"\\bthrow", "\\btry\\b", "\\bcatch\\b", "\\bsynchronized\\b", "\\bassert\\b",
        "->", "::", "\\bimport\\b", "\\bpackage\\b", "\\bprotected\\b", "Exact\\(", "\\brecord\\b", "System\\.(?!arraycopy)",
        "@", "\\bequals\\(", "hashCode", "toString", "\\bvar\\b", "[^\\x00-\\x7f]"};
    private static final int MOST_LINES = 60;
    private static final int MOST_PARAMETERS = 7;
    private static final int MOST_CLASSES = 12;
    private static final int MOST_FIELDS = 20;

    private LanguageTest() {
    }

    static void run(String source) throws Exception {
        String code = Files.readString(Path.of(source)).replaceAll("(?s)/\\*.*?\\*/", "").replaceAll("//[^\n]*", "");
        for (String word : FORBIDDEN) {
            Matcher m = Pattern.compile(word).matcher(code);
            Due.is("rules: " + word + (m.find() ? " stands at " + m.start() : ""), m.reset().find() ? 1 : 0, 0);
        }
        methodsAreShort(code);
        constants();
        face();
        Class<?>[] inside = RoseLane.class.getDeclaredClasses();
        Due.is("rules: classes", inside.length + 1 <= MOST_CLASSES ? 1 : 0, 1);
        fields(RoseLane.class);
        for (Class<?> c : inside) {
            int m = c.getModifiers();
            Due.is("rules: " + c.getName(), Modifier.isStatic(m) && !Modifier.isPublic(m) && !Modifier.isProtected(m) ? 1 : 0, 1);
            fields(c);
        }
    }

    private static void methodsAreShort(String code) {
        String[] lines = code.split("\n");
        int from = -1;
        for (int i = 0; i < lines.length; i++) {
            if (lines[i].matches("(    |        )\\S.*\\) \\{") && !lines[i].matches(" *(if|for|while|switch|\\}).*")) {
                from = i;
            }
            if (from >= 0 && lines[i].matches("(    |        )\\}")) {
                Due.is("rules: lines of " + lines[from].trim(), i - from < MOST_LINES ? 1 : 0, 1);
                from = -1;
            }
        }
    }

    private static void constants() {
        Due.is("NONE", RoseLane.NONE, -1);
        Due.is("UNKNOWN", RoseLane.UNKNOWN, -2);
        Due.is("OUTSIDE", RoseLane.OUTSIDE, -3);
        Due.is("NOT", RoseLane.NOT, -4);
        Due.is("FULL", RoseLane.FULL, -5);
    }

    private static void face() {
        TreeMap<String, Integer> due = new TreeMap<>();
        String all = "write 1 erase 0 fault 0 lane 0 sort 2 shop 2 as 2 visit 1 idle 1 wind 0 cold 1 undo 0 keep 1 back 1 best 3"
            + " through 0 change 0 coffeeAt 1 byLot 3 orders 2 tells 3 forget 0 smallest 1 count 1";
        String[] parts = all.split(" ");
        for (int i = 0; i < parts.length; i += 2) {
            due.put(parts[i], Integer.parseInt(parts[i + 1]));
        }
        TreeSet<String> faces = new TreeSet<>();
        for (Method m : RoseLane.class.getDeclaredMethods()) {
            boolean isPublic = Modifier.isPublic(m.getModifiers());
            Due.is("rules: " + m.getName(), isPublic || Modifier.isPrivate(m.getModifiers()) ? 1 : 0, 1);
            Due.is("rules: " + m.getName() + " in the face", due.containsKey(m.getName()) ? 1 : 0, isPublic ? 1 : 0);
            Due.is("rules: parameters of " + m.getName(), m.getParameterCount() <= MOST_PARAMETERS ? 1 : 0, 1);
            if (isPublic) {
                faces.add(m.getName());
                Due.is("face: " + m.getName(), m.getParameterCount(), due.getOrDefault(m.getName(), -1));
                Due.is("face: " + m.getName() + " answers int", m.getReturnType() == int.class ? 1 : 0, 1);
            }
        }
        Due.is("face: methods", faces.size(), due.size());
        Constructor<?>[] made = RoseLane.class.getDeclaredConstructors();
        Due.is("face: constructors", made.length, 1);
        Due.is("face: public and final", RoseLane.class.getModifiers(), Modifier.PUBLIC | Modifier.FINAL);
    }

    private static void fields(Class<?> c) {
        int own = 0;
        for (Field f : c.getDeclaredFields()) {
            int m = f.getModifiers();
            own += Modifier.isStatic(m) ? 0 : 1;
            Due.is("rules: " + f.getName() + " is final if static", Modifier.isStatic(m) && !Modifier.isFinal(m) ? 1 : 0, 0);
            if (c == RoseLane.class) {
                boolean isConstant = Modifier.isPublic(m) && "NONE UNKNOWN OUTSIDE NOT FULL".contains(f.getName());
                Due.is("face: field " + f.getName(), isConstant || Modifier.isPrivate(m) ? 1 : 0, 1);
            }
        }
        Due.is("rules: fields of " + c.getName(), own <= MOST_FIELDS ? 1 : 0, 1);
    }
}
