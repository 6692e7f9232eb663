/** Promises 16 to 24: best walks, through, change, coffee, lots, orders, tells. */
final class ForetoldTest {
    private static final int NONE = Due.NONE, UNKNOWN = Due.UNKNOWN, OUTSIDE = Due.OUTSIDE, FULL = Due.FULL;
    private static final String SORTS_TIRE_NOT = "sort 0 0 0;sort 1 0 0;sort 2 0 0;sort 3 0 0;";

    private ForetoldTest() {
    }

    static void run() {
        best();
        bestOfEqual();
        bestRefused();
        through();
        change();
        coffeeAt();
        byLot();
        orders();
        tells();
        forget();
        smallest();
        smallestOfKinds();
    }

    private static void bestIs(RoseLane x, int set, int m, int... due) {
        for (int what = 0; what < 8; what++) {
            int answer = what < due.length ? due[what] : NONE;
            Due.is("16 best(" + set + ", " + m + ", " + what + ")", x.best(set, m, what), answer);
        }
    }

    private static void best() {
        // shops 0 and 2 tire each other (one sort), 1 stands between
        RoseLane x = Due.told("sort 0 9 0;plain 0 10 1;plain 2 10 1;plain 0 20 1");
        bestIs(x, 0, 0, 0, 0);
        bestIs(x, 0, 30, 0, 0);
        bestIs(x, 1, 10, 0, 10, 0);
        bestIs(x, 1, 11);
        bestIs(x, 5, 0, 2, 21, 0, 2);
        bestIs(x, 5, 1, 2, 21, 0, 2);
        bestIs(x, 5, 11, NONE);
        bestIs(x, 7, 0, 2, 31, 0, 1, 2);
        bestIs(x, 7, 11);
        x.visit(1);
        // four walks are of 3 steps; 0 1 2 and 2 1 0 smell alike: 10 + 8 + 11, 20 + 8 + 1
        bestIs(x, 7, 0, 3, 29, 0, 1, 2);
        x.cold(2);
        bestIs(x, 4, 0, 1, 10, 2);
        bestIs(x, 5, 0, 3, 16, 0, 2);
        Due.is("16 nothing changes", x.count(4) + x.count(9), 3);
        x.wind();
        bestIs(x, 1, 0, 1, 5, 0);
        Due.is("16 no longer than needed", x.best(5, 0, 0), 3);
    }

    private static void bestOfEqual() {
        RoseLane x = Due.told(SORTS_TIRE_NOT + "plain 0 5 0;plain 0 5 0;plain 0 5 0");
        x.visit(1);
        bestIs(x, 7, 0, 3, 15, 0, 1, 2);
        x.wind();
        bestIs(x, 7, 0, 3, 15, 0, 1, 2);
        x.visit(0);
        bestIs(x, 7, 0, 2, 15, 0, 1, 2);
        x.visit(2);
        bestIs(x, 7, 0, 2, 15, 2, 1, 0);
        Due.tell(x, "sort 0 9 1;shut;plain 0 30 0;plain 0 29 0;coffee 3 20 0");
        bestIs(x, 7, 20, 2, 71, 0, 1, 2);
        bestIs(x, 7, 21);
        Due.tell(x, "sort 0 9 0;shut;plain 0 12 0;plain 0 20 0");
        bestIs(x, 3, 0, 1, 23, 0, 1);
        Due.tell(x, "shut;plain 0 20 0;plain 0 12 0");
        bestIs(x, 3, 3, 1, 23, 0, 1);
        // a longer walk is best where the shorter one is too weak
        bestIs(x, 3, 4, 2, 23, 1, 0);
        bestIs(x, 3, 12);
        Due.tell(x, "shut;plain 0 12 0;plain 0 30 0");
        bestIs(x, 3, 12, 1, 33, 0, 1);
        x.visit(1);
        bestIs(x, 3, 3, 2, 15, 0, 1);
        bestIs(x, 3, 0, 1, 21, 1, 0);
    }

    private static void bestRefused() {
        RoseLane x = Due.told("plain 0 5 0;plain 0 5 0;plain 0 5 0");
        for (int n : Due.EDGES) {
            boolean isSet = n >= 0 && n < 8;
            Due.is("16 set " + n, x.best(n, 31, 8), isSet ? OUTSIDE : UNKNOWN);
            Due.is("21 set " + n, x.orders(n, 6), isSet ? OUTSIDE : UNKNOWN);
            if (n < 0 || n > 30) {
                Due.is("16 m " + n, x.best(7, n, 0), OUTSIDE);
            }
            if (n < 0 || n > 7) {
                Due.is("16 what " + n, x.best(7, 0, n), OUTSIDE);
            }
        }
        Due.is("16 outside, though there is none", x.best(7, 30, 8), OUTSIDE);
    }

    private static void through() {
        RoseLane x = Due.told("sort 0 9 2;plain 0 10 1;musk 0 10 1;nothing 2 30 1;coffee 3 20 1;plain 1 9 0");
        // 10; 10 - 7 = 3; 3; 20 - 0; 9 - (4 + 2 - 3 held .. rested by coffee) = 9
        Due.is("17 through", x.through(), 45);
        x.visit(4);
        x.cold(30);
        Due.is("17 by a fresh nose, no cold", x.through(), 45);
        x.wind();
        // 9; coffee 20; 3; musk 10; 10 - (11 - 2) = 1
        Due.is("17 where shops are now", x.through(), 43);
        Due.is("17 nothing changes", x.count(4), 4);
        Due.tell(x, "shut");
        Due.is("17 no shops", x.through(), 0);
        Due.tell(x, "plain 0 30 0");
        Due.is("17 one", x.through(), 30);
    }

    private static void change() {
        RoseLane x = new RoseLane();
        Due.is("18 no shops", x.change(), NONE);
        Due.tell(x, "sort 0 9 0;sort 1 0 0;sort 2 0 0;sort 3 0 0;plain 0 30 0");
        Due.is("18 one shop", x.change(), NONE);
        // 30 + 21 + 12: all orders of equals smell alike
        Due.tell(x, "plain 0 30 0;plain 0 30 0");
        Due.is("18 no more than it is", x.change(), NONE);
        // 30 + 21 + 12 + 0; coffee behind the first: 30 + 0 + 30 + 21; behind the second: 30 + 21 + 0 + 22
        Due.tell(x, "coffee 1 1 0");
        Due.is("18 through", x.through(), 63);
        Due.is("18 pair", x.change(), 13);
        x.visit(3);
        x.cold(50);
        Due.is("18 pair by a fresh nose, no cold", x.change(), 13);
        x.wind();
        Due.is("18 pair behind wind", x.change(), 23);
        Due.is("18 nothing changes", x.shop(2, 4), 1);
        Due.tell(x, "shut;plain 0 10 0;plain 0 1 0;plain 0 10 0");
        Due.is("18 weak ones behind", x.through(), 10);
        Due.is("18 one more", x.change(), 12);
        Due.tell(x, "shut;plain 0 5 0;plain 0 6 0;plain 0 30 0");
        Due.is("18 the most, not the first that is more", x.change(), 2);
        // 62 as it is; 66 by 0 and 3, by 1 and 2, by 1 and 3
        Due.tell(x, "shut;sort 0 9 5;plain 0 30 0;plain 0 30 0;nothing 1 1 0;nothing 1 1 0");
        Due.is("18 through with nothing", x.through(), 62);
        Due.is("18 the first of several", x.change(), 3);
    }

    private static void coffeeAt() {
        RoseLane x = new RoseLane();
        Due.is("19 no shops", x.coffeeAt(0), NONE);
        Due.is("19 no shops, how much", x.coffeeAt(1), NONE);
        for (int n : Due.EDGES) {
            if (n < 0 || n > 1) {
                Due.is("19 what " + n, x.coffeeAt(n), OUTSIDE);
            }
        }
        Due.tell(x, "sort 0 9 0;plain 0 10 1");
        Due.is("19 one", x.coffeeAt(0), 0);
        Due.is("19 one, how much", x.coffeeAt(1), 0);
        // 0: 12 + 3; 1: 10 + 12; 2: 10 + 3
        Due.tell(x, "plain 0 12 1;plain 0 12 1");
        Due.is("19 between", x.coffeeAt(0), 1);
        Due.is("19 between, how much", x.coffeeAt(1), 22);
        // equal all: the least that is most
        Due.tell(x, "shut;sort 0 0 0;plain 0 10 1;plain 0 10 1;plain 0 10 1");
        Due.is("19 of several the least", x.coffeeAt(0), 0);
        Due.is("19 how much", x.coffeeAt(1), 20);
        Due.tell(x, "shut;sort 0 9 0;plain 0 12 0;coffee 0 1 0;plain 0 12 0;plain 1 3 0");
        Due.is("19 where coffee is", x.coffeeAt(0), 1);
        Due.is("19 of that one nothing", x.coffeeAt(1), 24);
        x.visit(0);
        x.cold(20);
        Due.is("19 by a fresh nose", x.coffeeAt(1), 24);
        x.wind();
        Due.is("19 where shops are now", x.coffeeAt(1), 27);
    }

    private static void lotIs(RoseLane x, int shop, int m, int above, int below) {
        Due.is("20 byLot(" + shop + ", " + m + ", 0)", x.byLot(shop, m, 0), above);
        Due.is("20 byLot(" + shop + ", " + m + ", 1)", x.byLot(shop, m, 1), below);
    }

    private static void byLot() {
        RoseLane x = Due.told("sort 0 9 0;plain 0 20 1;plain 0 20 1;plain 0 20 1;nothing 1 1 1");
        lotIs(x, 0, 20, 1, 3);
        lotIs(x, 0, 11, 2, 3);
        lotIs(x, 0, 2, 1, 1);
        lotIs(x, 0, 21, 0, 1);
        lotIs(x, 3, 3, 1, 1);
        lotIs(x, 3, 4, 0, 1);
        for (int n : Due.EDGES) {
            boolean known = n >= 0 && n <= 3;
            Due.is("20 shop " + n, x.byLot(n, 31, 2), known ? OUTSIDE : UNKNOWN);
            if (n < 0 || n > 30) {
                Due.is("20 m " + n, x.byLot(0, n, 0), OUTSIDE);
            }
            if (n < 0 || n > 1) {
                Due.is("20 part " + n, x.byLot(0, 0, n), OUTSIDE);
            }
        }
        x.visit(0);
        lotIs(x, 0, 11, 1, 3);
        x.cold(50);
        lotIs(x, 0, 5, 1, 3);
        Due.is("20 nothing changes", x.count(9), 2);
        // the cold ends on the way: shop 1 is smelt whole if 2 steps were gone ahead
        Due.tell(x, SORTS_TIRE_NOT + "shut;plain 0 10 0;plain 0 10 0");
        x.cold(1);
        lotIs(x, 1, 10, 1, 1);
        x.cold(2);
        lotIs(x, 1, 10, 0, 1);
        lotIs(x, 0, 10, 1, 2);
        Due.tell(x, "plain 0 10 0;plain 0 10 0;plain 0 10 0;plain 0 10 0");
        lotIs(x, 5, 10, 1, 1);
    }

    private static void ordersAre(RoseLane x, int set, int many, int... first) {
        Due.is("21 orders(" + set + ")", x.orders(set, NONE), many);
        for (int i = 0; i < 6; i++) {
            Due.is("21 orders(" + set + ", " + i + ")", x.orders(set, i), i < first.length ? first[i] : NONE);
        }
    }

    private static void orders() {
        RoseLane x = new RoseLane();
        ordersAre(x, 0, 1);
        for (int n : Due.EDGES) {
            if (n < NONE || n > 5) {
                Due.is("21 i " + n, x.orders(0, n), OUTSIDE);
            }
        }
        // the purse holds for two, in the order of the walk
        Due.tell(x, SORTS_TIRE_NOT + "want 5;purse 20;plain 0 5 10;plain 0 6 10;plain 0 4 0;plain 0 7 10");
        ordersAre(x, 3, 8, 0, 1, 2, 3);
        ordersAre(x, 9, 8, 0, 2, 3, 1);
        ordersAre(x, 10, 8, 1, 2, 3, 0);
        ordersAre(x, 4, 0);
        ordersAre(x, 0, 0);
        ordersAre(x, 1, 0);
        ordersAre(x, 15, 0);
        x.visit(0);
        x.visit(2);
        x.cold(50);
        ordersAre(x, 3, 8, 0, 1, 2, 3);
        Due.is("21 nothing changes", x.count(5), 1);
        // the nose tires of the first of two next to each other, and rests on the way over shop 2
        Due.tell(x, "shut;sort 0 9 5;want 10;purse 99;plain 0 10 1;plain 0 10 1;plain 1 1 1");
        ordersAre(x, 1, 2, 0, 1, 2);
        ordersAre(x, 2, 2, 1, 0, 2);
        ordersAre(x, 3, 2, 0, 2, 1);
        ordersAre(x, 4, 0);
        x.wind();
        ordersAre(x, 3, 2, 0, 2, 1);
    }

    private static void tells() {
        RoseLane x = Due.told("plain 0 20 1");
        for (int n : Due.EDGES) {
            Due.is("22 shop " + n, x.tells(n, 10, 31), n == 0 ? OUTSIDE : UNKNOWN);
            if (n < 0 || n > 9) {
                Due.is("22 visits " + n, x.tells(0, n, 0), OUTSIDE);
            }
            if (n < 0 || n > 30) {
                Due.is("22 smelt " + n, x.tells(0, 0, n), OUTSIDE);
            }
        }
        Due.is("22 none yet", x.count(8), 0);
        Due.is("22 first", x.tells(0, 0, 0), 1);
        Due.is("22 same again", x.tells(0, 0, 0), 2);
        Due.is("22 bounds", x.tells(0, 9, 30), 3);
        x.tells(0, 1, 1);
        x.tells(0, 1, 1);
        Due.is("22 sixth", x.tells(0, 1, 1), 6);
        Due.is("22 full", x.tells(0, 1, 1), FULL);
        Due.is("22 outside, full", x.tells(0, 10, 1), OUTSIDE);
        Due.is("22 unknown, full", x.tells(1, 1, 1), UNKNOWN);
        Due.is("22 count", x.count(8), 6);
    }

    private static void forget() {
        RoseLane x = Due.told("plain 0 20 1");
        Due.is("23 none", x.forget(), 0);
        x.tells(0, 0, 1);
        x.tells(0, 0, 2);
        Due.is("24 none fits", x.smallest(0), NONE);
        Due.is("23 two", x.forget(), 2);
        Due.is("23 none left", x.forget(), 0);
        Due.is("23 count", x.count(8), 0);
        Due.is("24 all fit", x.smallest(0), 0);
        Due.is("23 room again", x.tells(0, 0, 1), 1);
    }

    private static void smallest() {
        RoseLane x = Due.told("sort 0 3 5;plain 0 20 1;plain 1 12 1;plain 0 30 9");
        for (int n : Due.EDGES) {
            Due.is("24 sort " + n, x.smallest(n), n >= 0 && n <= 3 ? 0 : UNKNOWN);
        }
        x.tells(0, 2, 10);
        Due.is("24 5 a visit", x.smallest(0), 5);
        Due.is("24 other sorts", x.smallest(1), 0);
        x.tells(2, 6, 0);
        Due.is("24 both", x.smallest(0), 5);
        x.tells(1, 2, 0);
        Due.is("24 the least", x.smallest(1), 6);
        Due.is("24 sort 0 yet", x.smallest(0), 5);
        x.cold(50);
        x.visit(0);
        Due.is("24 a fresh nose, no cold", x.smallest(0), 5);
        x.tells(0, 1, 16);
        Due.is("24 none", x.smallest(0), NONE);
        Due.is("24 sort 1 yet", x.smallest(1), 6);
        x.forget();
        x.tells(0, 1, 11);
        Due.is("24 nine", x.smallest(0), 9);
        x.forget();
        x.tells(0, 1, 10);
        Due.is("24 ten would be too much", x.smallest(0), NONE);
        Due.is("24 tire stays", x.sort(0, 0), 3);
    }

    private static void smallestOfKinds() {
        RoseLane x = Due.told("musk 0 20 1;coffee 1 12 1;nothing 2 30 9;plain 3 5 1");
        x.tells(0, 2, 10);
        Due.is("24 musk", x.smallest(0), 3);
        x.tells(0, 0, 20);
        Due.is("24 musk, fresh", x.smallest(0), 3);
        x.tells(1, 9, 12);
        Due.is("24 coffee", x.smallest(1), 0);
        x.tells(2, 5, 3);
        Due.is("24 nothing", x.smallest(2), 0);
        x.tells(2, 5, 30);
        Due.is("24 nothing smells of 3", x.smallest(2), NONE);
        x.tells(1, 1, 11);
        Due.is("24 coffee tires not", x.smallest(1), NONE);
        Due.is("24 musk tires by 2", x.smallest(0), 3);
        x.forget();
        x.tells(0, 9, 2);
        Due.is("24 musk by 0", x.smallest(0), 0);
        x.tells(3, 1, 4);
        Due.is("24 plain", x.smallest(3), 1);
    }
}
