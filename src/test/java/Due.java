/** Counts the answers that are due and those that are not; what the tests have in common. */
final class Due {
    static final int NONE = -1, UNKNOWN = -2, OUTSIDE = -3, NOT = -4, FULL = -5;
    static final int[] EDGES = {Integer.MIN_VALUE, -1000, -7, -6, -5, -4, -3, -2, -1, 0, 1, 2, 3, 4, 5, 6, 7, 8, 9, 10, 11,
        19, 20, 21, 29, 30, 31, 32, 49, 50, 51, 63, 64, 99, 100, 159, 160, 161, 255, 256, 1000, Integer.MAX_VALUE};

    static int passed = 0;
    static int failed = 0;

    private Due() {
    }

    static void is(String what, long answer, long due) {
        if (answer == due) {
            passed++;
        } else {
            failed++;
            System.out.println(what + ": answered " + answer + ", due is " + due);
        }
    }

    static void write(RoseLane x, String text) {
        for (int i = 0; i < text.length(); i++) {
            x.write(text.charAt(i));
        }
    }

    /** Tells a text that has no fault. */
    static void tell(RoseLane x, String text) {
        x.erase();
        write(x, text);
        if (x.lane() < 1) {
            failed++;
            System.out.println("a fault in the test's own text: " + text);
        }
    }

    static RoseLane told(String text) {
        RoseLane x = new RoseLane();
        tell(x, text);
        return x;
    }

    /** All that can be asked without foretelling, in one text. */
    static String seen(RoseLane x) {
        StringBuilder all = new StringBuilder();
        for (int what = 0; what <= 10; what++) {
            all.append(x.count(what)).append(' ');
        }
        for (int sort = 0; sort < 4; sort++) {
            for (int what = 0; what < 3; what++) {
                all.append(x.sort(sort, what)).append(' ');
            }
        }
        for (int shop = 0; shop < 6; shop++) {
            for (int what = 0; what < 7; what++) {
                all.append(x.shop(shop, what)).append(' ');
            }
        }
        return all.toString();
    }

    static void same(String what, String answer, String due) {
        is(what + (answer.equals(due) ? "" : "\n  " + answer + "\n  " + due + "\n "), answer.equals(due) ? 1 : 0, 1);
    }
}
