/** Promises 1 to 8: a new object, the text, what it tells. */
final class ToldTest {
    private static final int NONE = Due.NONE, UNKNOWN = Due.UNKNOWN, OUTSIDE = Due.OUTSIDE, NOT = Due.NOT, FULL = Due.FULL;
    private static final String THIRTEEN = "lane;".repeat(13);
    private static final String SIX = "plain 0 1 0;musk 1 2 1;coffee 2 3 2;nothing 3 4 3;plain 3 30 50;musk 0 30 50";

    private ToldTest() {
    }

    static void run() {
        newObject();
        write();
        erase();
        faultOfWords();
        faultOfNumbers();
        faultOfShops();
        faultOfClauses();
        lane();
        laneFreshens();
        sort();
        shop();
        as();
    }

    private static void newObject() {
        RoseLane x = new RoseLane();
        int[] counts = {0, 10, 60, 0, 0, 0, 0, 0, 0, 0, 0};
        for (int what = 0; what < counts.length; what++) {
            Due.is("1 count(" + what + ")", x.count(what), counts[what]);
        }
        for (int sort = 0; sort < 4; sort++) {
            Due.is("1 tire", x.sort(sort, 0), 4);
            Due.is("1 rest", x.sort(sort, 1), 1);
            Due.is("1 tired", x.sort(sort, 2), 0);
        }
        Due.is("1 shop", x.shop(0, 0), UNKNOWN);
        Due.is("1 undo", x.undo(), NOT);
        Due.is("1 back(0)", x.back(0), NOT);
        Due.is("1 back(1)", x.back(1), NOT);
        Due.is("1 through", x.through(), 0);
    }

    private static void write() {
        RoseLane x = new RoseLane();
        Due.is("2 write(-1)", x.write(-1), OUTSIDE);
        Due.is("2 write(256)", x.write(256), OUTSIDE);
        Due.is("2 write(MIN)", x.write(Integer.MIN_VALUE), OUTSIDE);
        Due.is("2 write(65536 + 'a')", x.write(65536 + 'a'), OUTSIDE);
        Due.is("2 none written", x.count(10), 0);
        Due.is("2 write(0)", x.write(0), 1);
        Due.is("2 write(255)", x.write(255), 2);
        for (int i = 3; i <= 160; i++) {
            Due.is("2 write", x.write(32), i);
        }
        Due.is("2 write, full", x.write(32), FULL);
        Due.is("2 write(256), full", x.write(256), OUTSIDE);
        Due.is("2 letters", x.count(10), 160);
        Due.is("2 erase", x.erase(), 160);
        Due.is("2 write again", x.write(32), 1);
    }

    private static void erase() {
        RoseLane x = new RoseLane();
        Due.is("3 erase, empty", x.erase(), 0);
        Due.write(x, "want 5");
        Due.is("3 erase", x.erase(), 6);
        Due.is("3 erase again", x.erase(), 0);
        Due.is("3 letters", x.count(10), 0);
        Due.is("3 nothing told", x.count(1), 10);
        Due.write(x, "shut");
        Due.is("3 fault behind", x.fault(), NONE);
        Due.is("3 letters kept by fault", x.count(10), 4);
    }

    private static void faultIs(String text, int due) {
        RoseLane x = new RoseLane();
        Due.write(x, text);
        Due.is("4 fault of '" + text + "'", x.fault(), due);
        Due.is("4 lane of '" + text + "'", x.lane() == NOT ? 1 : 0, due == NONE ? 0 : 1);
        Due.is("4 letters of '" + text + "'", x.count(10), due == NONE ? 0 : text.length());
    }

    private static void faultOfWords() {
        faultIs("", 0);
        faultIs("   ", 3);
        faultIs("lane", NONE);
        faultIs("  lane  ", NONE);
        faultIs("shut", NONE);
        faultIs("lanes", 0);
        faultIs("lan", 0);
        faultIs(" Lane", 1);
        faultIs("lanE", 0);
        faultIs("l ane", 0);
        faultIs("5", 0);
        faultIs("lane lane", 5);
        faultIs("lane shut", 5);
        faultIs("shut5", 4);
        faultIs("lane.", 4);
        faultIs("lane\t", 4);
        faultIs("lane" + (char) 0, 4);
        faultIs("lane" + (char) 160, 4);
        faultIs("lane" + (char) 255, 4);
        faultIs("lane`", 4);
        faultIs("lane{", 4);
        faultIs("want want", 5);
        faultIs("iris", 0);
        faultIs("sort", 4);
        faultIs("sort ;", 5);
        faultIs("want5", NONE);
        faultIs("want  5  ", NONE);
        faultIs("wanta 5", 0);
        faultIs("wantz 5", 0);
        faultIs("xant 5", 0);
        faultIs("wanx 5", 0);
        faultIs("want 5a", 6);
        faultIs("want a5", 5);
        faultIs("want 5 5", 7);
        faultIs("want -5", 5);
        faultIs("want 5/", 6);
        faultIs("want 5:", 6);
    }

    private static void faultOfNumbers() {
        faultIs("sort 0 0 0", NONE);
        faultIs("sort 3 9 5", NONE);
        faultIs("sort3 09 05", NONE);
        faultIs("sort 03 00 00", NONE);
        faultIs("sort 003 0 0", 5);
        faultIs("sort 4 0 0", 5);
        faultIs("sort 0 10 0", 7);
        faultIs("sort 0 0 6", 9);
        faultIs("sort 0 000 6", 7);
        faultIs("sort 0 0 0 0", 11);
        faultIs("sort 000", 5);
        faultIs("sort 0 0", 8);
        faultIs("sort 0 0 ", 9);
        faultIs("sort 0 0 ;lane", 9);
        for (String word : new String[] {"plain", "musk", "coffee", "nothing"}) {
            int at = word.length() + 1;
            faultIs(word + " 0 1 0", NONE);
            faultIs(word + " 3 30 50", NONE);
            faultIs(word + " 4 1 0", at);
            faultIs(word + " 0 0 0", at + 2);
            faultIs(word + " 0 31 0", at + 2);
            faultIs(word + " 0 1 51", at + 4);
            faultIs(word + " 0 1", at + 3);
            faultIs(word + " 0 1 0 0", at + 6);
            faultIs(word + " 0 1 0 lane", at + 6);
            faultIs(word + "s 0 1 0", 0);
        }
        faultIs("want 1", NONE);
        faultIs("want 30", NONE);
        faultIs("want 0", 5);
        faultIs("want 00", 5);
        faultIs("want 31", 5);
        faultIs("want 005", 5);
        faultIs("want", 4);
        faultIs("purse 0", NONE);
        faultIs("purse 99", NONE);
        faultIs("purse 100", 6);
        faultIs("purse 99999999999999999999", 6);
        faultIs("purse 4294967297", 6);
        faultIs("purse", 5);
        faultIs("purse 1;want 0", 13);
    }

    private static void faultOfShops() {
        faultIs(SIX, NONE);
        faultIs(SIX + ";plain 0 1 0", SIX.length() + 1);
        faultIs(SIX + "; nothing", SIX.length() + 2);
        faultIs(SIX + ";shut;musk 0 1 0", NONE);
        faultIs(SIX + ";lane;musk 0 1 0", NONE);
        faultIs(SIX + ";want 5;musk 0 1 0", SIX.length() + 8);
        RoseLane x = Due.told(SIX);
        Due.write(x, "coffee 9 9 99");
        Due.is("4 a seventh, six told ahead", x.fault(), 0);
        Due.is("4 lane, six told ahead", x.lane(), NOT);
        Due.is("4 letters stay", x.erase(), 13);
        Due.write(x, "want 3;shut;coffee 0 1 0");
        Due.is("4 shut ahead", x.fault(), NONE);
        Due.is("4 asked again", x.fault(), NONE);
        Due.is("4 nothing done by fault", x.count(0), 6);
        Due.is("4 nothing wanted by fault", x.count(1), 10);
    }

    private static void faultOfClauses() {
        faultIs(";", 0);
        faultIs(" ;lane", 1);
        faultIs("lane;", 5);
        faultIs("lane ; ", 7);
        faultIs("lane;;lane", 5);
        faultIs("lane;lane", NONE);
        faultIs("lane ; lane", NONE);
        faultIs("lane,lane", 4);
        faultIs(THIRTEEN + "lane", NONE);
        faultIs(THIRTEEN + "lane ", NONE);
        faultIs(THIRTEEN + "lane;", 69);
        faultIs(THIRTEEN + "lane ;lane", 70);
        faultIs(THIRTEEN + "lane lane", 70);
        faultIs(THIRTEEN, 65);
        faultIs("x;" + THIRTEEN + "lane;", 0);
        faultIs(" ".repeat(156) + "lane", NONE);
        faultIs(" ".repeat(155) + "lane;", 160);
        faultIs(" ".repeat(157) + "lan", 157);
        faultIs(" ".repeat(160), 160);
    }

    private static void lane() {
        RoseLane x = new RoseLane();
        Due.is("5 lane, empty", x.lane(), NOT);
        Due.write(x, "want 5;purse 7;sort 2 8 3;plain 1 20 30");
        Due.is("5 lane", x.lane(), 4);
        Due.is("5 letters", x.count(10), 0);
        Due.is("5 want", x.count(1), 5);
        Due.is("5 purse", x.count(2), 7);
        Due.is("5 tire", x.sort(2, 0), 8);
        Due.is("5 rest", x.sort(2, 1), 3);
        Due.write(x, "coffee0 9 4");
        Due.is("5 lane, one clause", x.lane(), 1);
        Due.is("5 shops", x.count(0), 2);
        Due.is("5 want stays", x.count(1), 5);
        Due.is("5 sort stays", x.sort(2, 0), 8);
        Due.is("5 first shop stays", x.shop(0, 2), 20);
        Due.write(x, "want 0");
        String before = Due.seen(x);
        Due.is("5 lane, a fault", x.lane(), NOT);
        Due.same("5 refused", Due.seen(x), before);
        Due.tell(x, "want 6;want 7;sort 0 1 1;shut;sort 0 2 2;musk 3 3 3");
        Due.is("5 the later want", x.count(1), 7);
        Due.is("5 the later tire", x.sort(0, 0), 2);
        Due.is("5 shops behind shut", x.count(0), 1);
        Due.is("5 shut shuts shops alone", x.sort(2, 0), 8);
        Due.is("5 purse stays", x.count(2), 7);
        Due.is("5 no second shop", x.shop(1, 0), UNKNOWN);
        Due.tell(x, "want 6;lane;sort 1 0 0");
        Due.is("5 want as at first", x.count(1), 10);
        Due.is("5 purse as at first", x.count(2), 60);
        Due.is("5 shops as at first", x.count(0), 0);
        Due.is("5 tire as at first", x.sort(2, 0), 4);
        Due.is("5 rest as at first", x.sort(2, 1), 1);
        Due.is("5 told behind lane", x.sort(1, 0), 0);
        x.erase();
        Due.write(x, THIRTEEN + "want 3");
        Due.is("5 fourteen", x.lane(), 14);
    }

    private static void laneFreshens() {
        RoseLane x = Due.told("want 5;plain 0 20 9;plain 1 20 9;plain 2 20 9");
        String fresh = Due.seen(x);
        x.visit(2);
        x.wind();
        x.cold(9);
        x.tells(0, 1, 5);
        x.keep(0);
        x.keep(1);
        Due.is("5 can be undone", x.count(9), 3);
        Due.tell(x, "want 5");
        Due.same("5 fresh", Due.seen(x), fresh);
        Due.is("5 nothing to undo", x.undo(), NOT);
        Due.is("5 nothing kept (0)", x.back(0), NOT);
        Due.is("5 nothing kept (1)", x.back(1), NOT);
    }

    private static void sort() {
        RoseLane x = Due.told("sort 0 9 5;sort 3 1 2;plain 3 9 0");
        Due.is("6 tire", x.sort(0, 0), 9);
        Due.is("6 rest", x.sort(0, 1), 5);
        Due.is("6 tire of 3", x.sort(3, 0), 1);
        Due.is("6 rest of 3", x.sort(3, 1), 2);
        Due.is("6 tire of 1", x.sort(1, 0), 4);
        x.visit(0);
        Due.is("6 tired of 3", x.sort(3, 2), 1);
        Due.is("6 tired of its kin: half of 1, cut", x.sort(0, 2), 0);
        for (int n : Due.EDGES) {
            boolean known = n >= 0 && n <= 3;
            Due.is("6 sort " + n, x.sort(n, 9), known ? OUTSIDE : UNKNOWN);
            if (n < 0 || n > 2) {
                Due.is("6 what " + n, x.sort(0, n), OUTSIDE);
            }
        }
    }

    private static void shop() {
        RoseLane x = Due.told("plain 0 20 9;musk 1 21 10;coffee 2 22 11;nothing 3 23 50");
        int[][] due = {{0, 0, 20, 9, 0, 0, 20}, {1, 1, 21, 10, 1, 0, 21}, {2, 2, 22, 11, 2, 0, 22}, {3, 3, 23, 50, 3, 0, 3}};
        for (int shop = 0; shop < 4; shop++) {
            for (int what = 0; what < 7; what++) {
                Due.is("7 shop(" + shop + ", " + what + ")", x.shop(shop, what), due[shop][what]);
            }
        }
        for (int n : Due.EDGES) {
            boolean known = n >= 0 && n <= 3;
            Due.is("7 shop " + n, x.shop(n, 7), known ? OUTSIDE : UNKNOWN);
            if (n < 0 || n > 6) {
                Due.is("7 what " + n, x.shop(0, n), OUTSIDE);
            }
        }
        x.visit(0);
        Due.is("7 bought", x.shop(0, 5), 1);
        Due.is("7 not bought", x.shop(1, 5), 0);
        Due.is("7 smelt there now, no steps", x.shop(0, 6), 16);
        Due.is("7 smelt of kin", x.shop(1, 6), 19);
        x.cold(1);
        Due.is("7 smelt in a cold", x.shop(1, 6), 9);
        Due.is("7 nothing in a cold", x.shop(3, 6), 3);
        x.wind();
        Due.is("7 place behind wind", x.shop(0, 4), 3);
        Due.is("7 place behind wind", x.shop(3, 4), 0);
        Due.tell(x, "shut");
        Due.is("7 shut", x.shop(0, 0), UNKNOWN);
    }

    private static void as() {
        RoseLane x = Due.told("sort 0 9 0;plain 0 20 9;musk 0 21 10;coffee 0 22 11;nothing 0 23 50");
        int[][] due = {{108, 108, NOT, NOT, NOT}, {110, 110, 110, NOT, NOT}, {99, NOT, NOT, 99, NOT}, {99, NOT, NOT, NOT, 99}};
        for (int shop = 0; shop < 4; shop++) {
            for (int kind = 0; kind < 5; kind++) {
                Due.is("8 as(" + shop + ", " + kind + ")", x.as(shop, kind), due[shop][kind]);
            }
        }
        for (int n : Due.EDGES) {
            boolean known = n >= 0 && n <= 3;
            Due.is("8 shop " + n, x.as(n, -1), known ? OUTSIDE : UNKNOWN);
            if (n < 0 || n > 4) {
                Due.is("8 kind " + n, x.as(2, n), OUTSIDE);
            }
        }
        x.visit(0);
        Due.is("8 coffee, tired by 9", x.as(2, 3), 90);
        x.visit(1);
        Due.is("8 coffee, tired by 20", x.as(2, 0), 89);
        for (int i = 0; i < 7; i++) {
            x.visit(1);
        }
        Due.is("8 tired by 97", x.sort(0, 2), 97);
        Due.is("8 plain, held to 99", x.as(0, 1), 101);
        Due.is("8 musk, held to 99", x.as(1, 2), 101);
        x.visit(0);
        Due.is("8 tired, held", x.sort(0, 2), 99);
        Due.is("8 plain, by none", x.as(0, 0), 99);
        Due.is("8 coffee, from 99", x.as(2, 0), 89);
        Due.is("8 nothing", x.as(3, 0), 99);
    }
}
