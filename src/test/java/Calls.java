import java.lang.reflect.Method;
import java.util.HashMap;
import java.util.Map;

/**
 * A run of calls on one new object, told in a line with the answers that are due, as
 * "tell want 5; plain 0 9 1, visit 0 = 9, 3 times idle 20, visit 1 = UNKNOWN".
 * `tell ..` erases, writes a text and does it, `text ..` writes alone; a call without = may answer anything.
 */
final class Calls {
    /** What calls behind these answer is free. */
    static final int MOST = 512;
    private static final Map<String, Integer> WORDS = Map.of("NONE", Due.NONE, "UNKNOWN", Due.UNKNOWN, "OUTSIDE", Due.OUTSIDE,
        "NOT", Due.NOT, "FULL", Due.FULL, "MIN", Integer.MIN_VALUE, "MAX", Integer.MAX_VALUE);
    private static final Map<String, Method> METHODS = methods();

    final RoseLane x = new RoseLane();
    private final String sentence;
    private int calls = 0;

    private Calls(String sentence) {
        this.sentence = sentence;
    }

    /** One sentence of the document, tested by one run. */
    static void due(String sentence, String run) {
        made(sentence, run);
    }

    static Calls made(String sentence, String run) {
        Calls all = new Calls(sentence);
        for (String part : run.split(",")) {
            all.go(part.strip());
        }
        return all;
    }

    /** The call is refused by this answer, and all that can be asked behind it is as without it. */
    static void refused(String sentence, String run, String call, int answer) {
        Calls with = made(sentence, run);
        Calls without = made(sentence, run);
        Due.is(sentence + ": " + call, with.call(call), answer);
        Due.same(sentence + ": nothing changes by " + call, with.all(), without.all());
    }

    private void go(String part) {
        if (part.isEmpty()) {
            return;
        }
        if (part.startsWith("tell ")) {
            call("erase");
            write(part.substring(5));
            Due.is(sentence + ": '" + part + "' has no fault", call("lane") >= 1 ? 1 : 0, 1);
        } else if (part.startsWith("text ")) {
            write(part.substring(5));
        } else if (part.contains(" times ")) {
            String[] halves = part.split(" times ");
            for (int i = Integer.parseInt(halves[0]); i > 0; i--) {
                go(halves[1]);
            }
        } else if (part.contains(" = ")) {
            String[] halves = part.split(" = ");
            Due.is(sentence + ": " + halves[0], call(halves[0]), number(halves[1]));
        } else {
            call(part);
        }
    }

    private void write(String text) {
        for (int i = 0; i < text.length(); i++) {
            call("write " + (int) text.charAt(i));
        }
    }

    int call(String told) {
        calls++;
        if (calls > MOST) {
            throw new IllegalStateException(sentence + ": more than " + MOST + " calls");
        }
        String[] words = told.strip().split(" ");
        Method method = METHODS.get(words[0]);
        Object[] numbers = new Object[words.length - 1];
        for (int i = 1; i < words.length; i++) {
            numbers[i - 1] = number(words[i]);
        }
        try {
            return (Integer) method.invoke(x, numbers);
        } catch (ReflectiveOperationException e) {
            throw new IllegalStateException(sentence + ": " + told, e);
        }
    }

    private static int number(String word) {
        Integer named = WORDS.get(word.strip());
        return named != null ? named : Integer.parseInt(word.strip());
    }

    private static Map<String, Method> methods() {
        Map<String, Method> all = new HashMap<>();
        for (Method method : RoseLane.class.getMethods()) {
            if (method.getDeclaringClass() == RoseLane.class) {
                all.put(method.getName(), method);
            }
        }
        return all;
    }

    /** All that the object holds: as it is, as it was before each step, as it was kept, and its text. */
    String all() {
        StringBuilder all = new StringBuilder(state());
        int shops = call("count 0");
        int every = (1 << shops) - 1;
        for (String asked : new String[] {"through", "change", "coffeeAt 0", "coffeeAt 1", "best " + every + " 0 0",
            "best " + every + " 0 1", "orders " + every + " -1", "orders 0 -1", "smallest 0", "smallest 1", "fault"}) {
            all.append(call(asked)).append(' ');
        }
        for (int i = call("count 9"); i > 0; i--) {
            all.append("\n  undo ").append(call("undo")).append(' ').append(walked());
        }
        for (int k = 0; k < 2; k++) {
            all.append("\n  back ").append(call("back " + k)).append(' ').append(state());
        }
        return all.append("\n  text ").append(call("lane")).append(' ').append(call("count 0")).append(' ').append(call("count 1"))
            .append(' ').append(call("erase")).toString();
    }

    private String state() {
        StringBuilder all = new StringBuilder(walked());
        for (int what : new int[] {0, 1, 8, 9, 10}) {
            all.append(call("count " + what)).append(' ');
        }
        for (int sort = 0; sort < 4; sort++) {
            all.append(call("sort " + sort + " 0")).append(' ').append(call("sort " + sort + " 1")).append(' ');
        }
        for (int shop = 0; shop < call("count 0"); shop++) {
            for (int what = 0; what < 7; what++) {
                all.append(call("shop " + shop + " " + what)).append(' ');
            }
        }
        return all.toString();
    }

    /** What visits, steps, wind and colds make other. */
    private String walked() {
        StringBuilder all = new StringBuilder();
        for (int what = 2; what <= 7; what++) {
            all.append(call("count " + what)).append(' ');
        }
        for (int sort = 0; sort < 4; sort++) {
            all.append(call("sort " + sort + " 2")).append(' ');
        }
        return all.append(call("shop 0 4")).append(' ').toString();
    }
}
