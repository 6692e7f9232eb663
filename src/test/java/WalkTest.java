/** Promises 9 to 15 and 25: steps, visits, wind, colds, what is undone and kept. */
final class WalkTest {
    private static final int UNKNOWN = Due.UNKNOWN, OUTSIDE = Due.OUTSIDE, NOT = Due.NOT;

    private WalkTest() {
    }

    static void run() {
        visit();
        visitTires();
        visitBuys();
        idle();
        wind();
        cold();
        undo();
        keep();
        back();
        count();
    }

    private static void tired(RoseLane x, String what, int... due) {
        for (int sort = 0; sort < 4; sort++) {
            Due.is(what + ", tired of " + sort, x.sort(sort, 2), due[sort]);
        }
    }

    private static void visit() {
        RoseLane x = Due.told("sort 0 7 2;sort 1 5 1;plain 0 20 9;musk 1 9 50;coffee 0 22 11;nothing 3 23 50");
        for (int n : Due.EDGES) {
            if (n < 0 || n > 3) {
                Due.is("9 visit(" + n + ")", x.visit(n), UNKNOWN);
            }
        }
        Due.is("9 nothing gone", x.count(4) + x.count(9), 0);
        Due.is("9 visit(0)", x.visit(0), 20);
        tired(x, "9 plain", 7, 3, 0, 0);
        Due.is("9 no step", x.count(4), 0);
        Due.is("9 visit(1)", x.visit(1), 7);
        tired(x, "9 musk", 7, 9, 4, 2);
        Due.is("9 visit(0) again", x.visit(0), 15);
        tired(x, "9 plain again", 12, 11, 3, 1);
        Due.is("9 visit(3), nothing", x.visit(3), 3);
        tired(x, "9 nothing", 6, 8, 0, 0);
        Due.is("9 steps", x.count(4), 5);
        Due.is("9 place", x.count(3), 3);
        Due.is("9 visit(2), coffee", x.visit(2), 18);
        tired(x, "9 coffee", 0, 0, 0, 0);
        Due.is("9 smelt together", x.count(7), 63);
    }

    private static void visitTires() {
        RoseLane x = Due.told("sort 3 9 0;sort 0 0 0;sort 1 0 0;sort 2 0 0;musk 3 30 50;plain 3 30 50;coffee 3 1 1");
        Due.is("9 first", x.visit(0), 30);
        tired(x, "9 kin of 3 is 0", 6, 2, 2, 11);
        for (int i = 0; i < 8; i++) {
            x.visit(0);
        }
        Due.is("9 smelt none", x.visit(0), 0);
        tired(x, "9 held", 60, 20, 20, 99);
        x.visit(2);
        tired(x, "9 coffee", 50, 10, 10, 89);
        x.visit(2);
        tired(x, "9 coffee again", 40, 0, 0, 79);
        x.visit(1);
        tired(x, "9 plain", 44, 0, 0, 88);
        Due.tell(x, "sort 1 1 0;shut;plain 1 5 0");
        x.visit(0);
        tired(x, "9 half of 1, cut", 0, 1, 0, 0);
        Due.is("9 less", x.visit(0), 4);
    }

    private static void visitBuys() {
        RoseLane x = Due.told("sort 0 1 0;want 10;purse 30;plain 0 10 20;plain 1 9 0;nothing 2 30 0;coffee 3 20 11;plain 3 20 10");
        x.visit(0);
        Due.is("9 bought, just wanted", x.count(5), 1);
        Due.is("9 purse", x.count(2), 10);
        x.visit(0);
        Due.is("9 bought once", x.count(2), 10);
        x.visit(1);
        Due.is("9 too weak", x.count(5), 1);
        x.visit(2);
        Due.is("9 nothing is too weak", x.count(5), 1);
        x.visit(3);
        Due.is("9 too dear", x.count(5), 1);
        x.visit(4);
        Due.is("9 just paid", x.count(5), 17);
        Due.is("9 purse empty", x.count(2), 0);
        Due.tell(x, "want 3");
        Due.is("9 purse as told", x.count(2), 30);
        x.visit(2);
        Due.is("9 nothing is bought for 3", x.count(5), 4);
        x.cold(50);
        x.visit(2);
        x.visit(3);
        Due.is("9 coffee is bought in a cold", x.count(5), 12);
        Due.tell(x, "want 11");
        x.cold(5);
        Due.is("9 half of 20", x.visit(3), 10);
        Due.is("9 too weak in a cold", x.count(5), 0);
        x.cold(0);
        Due.is("9 whole", x.visit(3), 20);
        Due.is("9 bought later", x.count(5), 8);
    }

    private static void idle() {
        RoseLane x = Due.told("sort 0 9 2;sort 1 9 5;plain 0 10 20;plain 0 10 20");
        for (int n : Due.EDGES) {
            if (n < 1 || n > 20) {
                Due.is("10 idle(" + n + ")", x.idle(n), OUTSIDE);
            }
        }
        Due.is("10 refused", x.count(9), 0);
        x.visit(1);
        Due.is("10 idle(1)", x.idle(1), 2);
        tired(x, "10 rest", 7, 0, 0, 0);
        x.cold(9);
        Due.is("10 idle(3)", x.idle(3), 5);
        tired(x, "10 rest more", 1, 0, 0, 0);
        Due.is("10 the cold", x.count(6), 6);
        Due.is("10 place", x.count(3), 1);
        Due.is("10 idle(20)", x.idle(20), 25);
        tired(x, "10 rested", 0, 0, 0, 0);
        Due.is("10 no cold", x.count(6), 0);
        Due.is("10 bought none, smelt just once", x.count(7), 10);
    }

    private static void wind() {
        RoseLane x = new RoseLane();
        Due.is("11 no shops", x.wind(), NOT);
        Due.is("11 refused", x.count(9), 0);
        Due.tell(x, "plain 0 10 20;plain 1 11 20;plain 2 12 20");
        Due.is("11 wind", x.wind(), 2);
        Due.is("11 place", x.count(3), 2);
        for (int shop = 0; shop < 3; shop++) {
            Due.is("11 place of " + shop, x.shop(shop, 4), 2 - shop);
        }
        Due.is("11 no step", x.count(4), 0);
        Due.is("11 still there", x.visit(0), 10);
        Due.is("11 no step to it", x.count(4), 0);
        x.visit(1);
        Due.is("11 middle", x.wind(), 1);
        Due.is("11 place of 0", x.shop(0, 4), 0);
        x.visit(2);
        Due.is("11 again", x.wind(), 0);
        Due.tell(x, "shut");
        Due.is("11 shut", x.wind(), NOT);
    }

    private static void cold() {
        RoseLane x = Due.told("sort 0 0 0;plain 0 11 20;plain 0 11 20;plain 0 11 20;nothing 0 1 1");
        for (int n : Due.EDGES) {
            if (n < 0 || n > 50) {
                Due.is("12 cold(" + n + ")", x.cold(n), OUTSIDE);
            }
        }
        Due.is("12 refused", x.count(9), 0);
        Due.is("12 cold(50)", x.cold(50), 0);
        Due.is("12 in place of 50", x.cold(2), 50);
        Due.is("12 half, cut", x.visit(0), 5);
        Due.is("12 a step less", x.visit(1), 5);
        Due.is("12 over", x.visit(2), 11);
        Due.is("12 none", x.cold(3), 0);
        Due.is("12 three", x.cold(0), 3);
        Due.is("12 zero", x.cold(9), 0);
        Due.is("12 nothing in a cold", x.visit(3), 3);
        Due.is("12 the rest", x.count(6), 8);
        Due.tell(x, "want 9");
        Due.is("12 none behind a text", x.count(6), 0);
    }

    /** Twelve steps of all kinds, or the first of them. */
    private static RoseLane walked(int steps) {
        RoseLane x = Due.told("plain 0 11 20;musk 1 12 5;nothing 2 13 5;coffee 3 14 1");
        for (int i = 0; i < steps; i++) {
            switch (i % 4) {
                case 0: x.visit(i / 4 + 1); break;
                case 1: x.wind(); break;
                case 2: x.cold(i); break;
                default: x.idle(2); break;
            }
            Due.is("13 can be undone", x.count(9), Math.min(8, i + 1));
        }
        return x;
    }

    private static void undo() {
        for (int undone = 1; undone <= 8; undone++) {
            RoseLane x = walked(12);
            for (int i = 1; i <= undone; i++) {
                Due.is("13 undo", x.undo(), 8 - i);
            }
            Due.same("13 as before", counted(Due.seen(x)), counted(Due.seen(walked(12 - undone))));
        }
        RoseLane x = walked(12);
        for (int i = 0; i < 8; i++) {
            x.undo();
        }
        Due.is("13 none left", x.undo(), NOT);
        Due.same("13 refused", counted(Due.seen(x)), counted(Due.seen(walked(4))));
        x.cold(x.count(6));
        Due.is("13 one that changed nothing", x.undo(), 0);
        x.visit(99);
        x.idle(0);
        x.cold(-1);
        Due.is("13 none of refused ones", x.undo(), NOT);
        x.tells(0, 0, 5);
        x.idle(1);
        x.tells(0, 0, 6);
        x.keep(0);
        x.undo();
        Due.is("13 tells stay", x.count(8), 2);
        Due.is("13 what was kept stays", x.back(0), x.count(4));
    }

    /** Without how many can be undone, which undoing makes other. */
    private static String counted(String seen) {
        String[] parts = seen.split(" ");
        parts[9] = "-";
        return String.join(" ", parts);
    }

    private static void keep() {
        RoseLane x = Due.told("plain 0 11 20;musk 1 12 5");
        for (int n : Due.EDGES) {
            if (n < 0 || n > 1) {
                Due.is("14 keep(" + n + ")", x.keep(n), UNKNOWN);
                Due.is("15 back(" + n + ")", x.back(n), UNKNOWN);
            }
        }
        Due.is("14 keep(0)", x.keep(0), 0);
        x.idle(7);
        Due.is("14 keep(1)", x.keep(1), 7);
        Due.is("14 can be undone yet", x.count(9), 1);
        Due.is("15 back(0)", x.back(0), 0);
        Due.is("15 back(1)", x.back(1), 7);
        Due.is("15 back(1) again", x.back(1), 7);
        x.idle(1);
        Due.is("14 keep(1) anew", x.keep(1), 8);
        Due.is("15 back(0)", x.back(0), 0);
        Due.is("15 back(1) anew", x.back(1), 8);
    }

    private static void back() {
        RoseLane x = Due.told("plain 0 11 20;musk 1 12 5;nothing 2 13 5;coffee 3 14 1");
        Due.is("15 nothing kept", x.back(0), NOT);
        x.visit(1);
        x.wind();
        x.cold(40);
        x.keep(1);
        Due.is("15 kept in 1, not in 0", x.back(0), NOT);
        String kept = counted(Due.seen(x));
        x.visit(0);
        x.wind();
        x.cold(0);
        x.idle(20);
        Due.is("15 back", x.back(1), 1);
        Due.same("15 as kept", counted(Due.seen(x)), kept);
        Due.is("15 nothing to undo", x.count(9), 0);
        Due.is("15 undo", x.undo(), NOT);
        x.tells(0, 0, 1);
        x.write('a');
        x.back(1);
        Due.is("15 tells stay", x.count(8), 1);
        Due.is("15 the text stays", x.count(10), 1);
        Due.tell(x, "want 12");
        Due.is("15 nothing kept since the text", x.back(1), NOT);
    }

    private static void count() {
        RoseLane x = Due.told("want 11;purse 50;plain 0 11 20;musk 1 12 5;nothing 2 13 5;coffee 3 14 1");
        x.visit(1);
        x.visit(3);
        x.cold(7);
        x.tells(1, 1, 1);
        x.write(';');
        int[] due = {4, 11, 44, 3, 3, 10, 7, 26, 1, 3, 1};
        for (int what = 0; what < due.length; what++) {
            Due.is("25 count(" + what + ")", x.count(what), due[what]);
        }
        for (int n : Due.EDGES) {
            if (n < 0 || n > 10) {
                Due.is("25 count(" + n + ")", x.count(n), OUTSIDE);
            }
        }
    }
}
