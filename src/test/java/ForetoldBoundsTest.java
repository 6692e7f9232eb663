/** Each sentence of FORETOLD and of promises 16 to 24 that names a boundary, by runs of its own. */
final class ForetoldBoundsTest {
    private static final int UNKNOWN = Due.UNKNOWN, OUTSIDE = Due.OUTSIDE, FULL = Due.FULL;
    private static final String WALKED = "tell want 9;purse 20;sort 0 9 0;plain 0 20 9;musk 1 20 9;nothing 3 2 1, "
        + "visit 2, wind, keep 1, cold 9, visit 0, tells 0 1 5, text wan, ";
    private static final String[] NO_SETS = {"8", "9", "15", "16", "64", "-1", "-8", "256", "MIN", "MAX"};
    private static final String TIRE_NOT = "sort 0 0 0;sort 1 0 0;sort 2 0 0;sort 3 0 0;";
    private static final String SIX = "plain 0 9 0;plain 0 9 0;plain 0 9 0;plain 0 9 0;plain 0 9 0;plain 0 9 0";

    private ForetoldBoundsTest() {
    }

    static void run() {
        changesNothing();
        bestRefused();
        bestSets();
        bestEach();
        bestFirst();
        through();
        changeNone();
        change();
        coffeeAt();
        coffeeInPlace();
        byLotRefused();
        byLot();
        ordersRefused();
        ordersNone();
        ordersFresh();
        tells();
        forget();
        smallestBounds();
        smallestKinds();
        smallestFresh();
    }

    /** Also calls that are answered change nothing: `refused` compares all that can be asked. */
    private static void changesNothing() {
        RoseLane x = Calls.made("3 nothing changes", WALKED).x;
        Calls.refused("16 nothing changes", WALKED, "best 7 0 0", x.best(7, 0, 0));
        Calls.refused("16 nothing changes, none", WALKED, "best 7 30 0", Due.NONE);
        Calls.refused("17 nothing changes", WALKED, "through", x.through());
        Calls.refused("18 nothing changes", WALKED, "change", x.change());
        Calls.refused("19 nothing changes", WALKED, "coffeeAt 0", x.coffeeAt(0));
        Calls.refused("20 nothing changes", WALKED, "byLot 0 9 1", x.byLot(0, 9, 1));
        Calls.refused("21 nothing changes", WALKED, "orders 3 0", x.orders(3, 0));
        Calls.refused("24 nothing changes", WALKED, "smallest 0", x.smallest(0));
        Calls.refused("7 nothing changes", WALKED, "shop 0 6", x.shop(0, 6));
        Calls.refused("25 nothing changes", WALKED, "count 4", x.count(4));
    }

    private static void bestRefused() {
        for (String set : NO_SETS) {
            Calls.refused("16 a set with no such SHOP", WALKED, "best " + set + " 0 0", UNKNOWN);
            Calls.refused("16 UNKNOWN ahead of OUTSIDE", WALKED, "best " + set + " 31 8", UNKNOWN);
        }
        for (String n : new String[] {"-1", "31", "MIN", "MAX"}) {
            Calls.refused("16 m", WALKED, "best 7 " + n + " 0", OUTSIDE);
            Calls.refused("16 m of the empty set", WALKED, "best 0 " + n + " 0", OUTSIDE);
        }
        for (String n : new String[] {"-1", "8", "MIN", "MAX"}) {
            Calls.refused("16 what", WALKED, "best 7 0 " + n, OUTSIDE);
            Calls.refused("16 what, where there is none", WALKED, "best 7 30 " + n, OUTSIDE);
        }
        Calls.due("16 no SHOPS", "best 0 0 0 = 0, best 1 0 0 = UNKNOWN, best -1 0 0 = UNKNOWN, best 0 31 0 = OUTSIDE");
        Calls.due("16 SHOPS were shut", "tell plain 0 9 0;plain 0 9 0, tell shut;plain 0 9 0, best 1 0 0 = 0, best 2 0 0 = UNKNOWN, best 3 0 0 = UNKNOWN");
        Calls.due("16 a set of six", "tell " + SIX + ", best 63 0 0 = 5, best 64 0 0 = UNKNOWN, best 127 0 0 = UNKNOWN");
    }

    private static void bestSets() {
        String told = "tell " + SIX + ", ";
        Calls.due("16 the empty set", told + "best 0 0 0 = 0, best 0 30 0 = 0, best 0 30 1 = 0, best 0 0 2 = NONE, best 0 0 7 = NONE");
        Calls.due("16 the empty set, STEPS are gone already", told + "visit 3, best 0 0 0 = 0, best 0 0 1 = 0");
        Calls.due("16 one SHOP", told + "best 32 0 0 = 5, best 32 0 1 = 9, best 32 0 2 = 5, best 32 0 3 = NONE");
        Calls.due("16 one SHOP, no STEPS", told + "visit 5, best 32 0 0 = 0, best 32 0 1 = 5, best 32 0 2 = 5");
        Calls.due("16 the last of six", told + "best 63 0 7 = 5, best 63 0 6 = 4, best 63 0 2 = 0");
        Calls.due("16 there are not so many", told + "best 31 0 6 = 4, best 31 0 7 = NONE, best 7 0 4 = 2, best 7 0 5 = NONE");
        Calls.due("16 not one of the set between", told + "best 33 0 0 = 5, best 33 0 2 = 0, best 33 0 3 = 5, best 33 0 4 = NONE");
        Calls.due("16 none has no STEPS, no SHOPS", "tell " + TIRE_NOT + SIX + ", best 63 9 0 = 5, best 63 10 0 = NONE, best 63 10 1 = NONE, best 63 10 2 = NONE");
    }

    private static void bestEach() {
        Calls.due("16 SMELT just m", "tell plain 0 9 0, best 1 9 0 = 0, best 1 9 1 = 9");
        Calls.due("16 SMELT one less than m", "tell plain 0 9 0, best 1 10 0 = NONE");
        Calls.due("16 m 30", "tell plain 0 30 0;plain 2 29 0, best 1 30 1 = 30, best 2 30 1 = NONE, best 2 29 1 = 29");
        Calls.due("16 m 0, SMELT 0", "tell sort 0 9 0;plain 0 9 0, visit 0, best 1 0 0 = 0, best 1 0 1 = 0, best 1 1 0 = NONE");
        Calls.due("16 in each VISIT, the last too", "tell " + TIRE_NOT + "plain 0 9 0;plain 0 9 0;plain 0 5 0, best 7 5 0 = 2, best 7 6 0 = NONE");
        Calls.due("16 in each VISIT, the first too", "tell " + TIRE_NOT + "plain 0 5 0;plain 0 9 0;plain 0 9 0, best 7 5 0 = 2, best 7 6 0 = NONE");
        Calls.due("16 in each VISIT, not together", "tell " + TIRE_NOT + "plain 0 5 0;plain 0 5 0, best 3 6 0 = NONE");
        Calls.due("16 NOTHING is 3", "tell nothing 0 30 0, best 1 3 0 = 0, best 1 4 0 = NONE, cold 9, best 1 3 1 = 3");
        Calls.due("16 in a COLD", "tell plain 0 9 0, cold 1, best 1 4 1 = 4, best 1 5 0 = NONE");
        Calls.due("16 a COLD that is over on the way", "tell plain 0 9 0;plain 2 9 0, cold 1, best 2 9 1 = 9, best 3 4 1 = 13, best 3 5 0 = 2");
        Calls.due("16 from now, TIRED", "tell sort 0 9 0;plain 0 20 0, visit 0, best 1 11 1 = 11, best 1 12 0 = NONE");
    }

    private static void bestFirst() {
        String told = "tell " + TIRE_NOT + "plain 0 5 0;plain 0 5 0;plain 0 5 0, ";
        Calls.due("16 fewest STEPS", told + "best 7 0 0 = 2, best 7 0 2 = 0, best 7 0 4 = 2");
        Calls.due("16 fewest STEPS, from the other end", told + "visit 2, best 7 0 0 = 2, best 7 0 2 = 2, best 7 0 4 = 0");
        Calls.due("16 of several the first by numbers", told + "visit 1, best 7 0 0 = 3, best 7 0 2 = 0, best 7 0 3 = 1, best 7 0 4 = 2");
        Calls.due("16 by numbers, not by PLACES", told + "visit 1, wind, best 7 0 0 = 3, best 7 0 2 = 0, best 7 0 3 = 1, best 7 0 4 = 2");
        Calls.due("16 the first by its second SHOP", told + "visit 1, best 5 0 0 = 3, best 5 0 2 = 0, best 5 0 3 = 2");
        Calls.due("16 fewest STEPS ahead of most SMELT", "tell sort 0 9 0;plain 0 12 0;plain 0 20 0, best 3 0 0 = 1, best 3 0 1 = 23");
        Calls.due("16 fewest STEPS ahead of most SMELT, the other way", "tell sort 0 9 0;sort 1 0 0;plain 0 20 0;plain 1 20 0, best 3 0 0 = 1, best 3 0 1 = 36, best 3 17 0 = 2, best 3 17 1 = 40, best 3 17 2 = 1");
        Calls.due("16 of as few STEPS most SMELT", "tell " + TIRE_NOT + "sort 0 9 0;nothing 3 1 0;plain 0 20 0;plain 3 1 0;plain 1 20 0, visit 2, "
            + "best 10 0 0 = 3, best 10 0 1 = 40, best 10 0 2 = 3, best 10 0 3 = 1");
        Calls.due("16 STEPS of the WALK alone", told + "idle 9, visit 1, best 7 0 0 = 3, best 7 0 1 = 15");
    }

    private static void through() {
        Calls.due("17 no SHOPS", "through = 0, idle 3, cold 2, through = 0");
        Calls.due("17 SHOPS were shut", "tell " + SIX + ", tell shut, through = 0");
        Calls.due("17 one SHOP", "tell plain 0 30 0, through = 30, wind, through = 30");
        Calls.due("17 six SHOPS", "tell " + SIX + ", through = 18");
        Calls.due("17 0 at least", "tell sort 0 9 0;plain 0 9 0;plain 0 8 0;plain 2 5 0, through = 14");
        Calls.due("17 a STEP between", "tell sort 0 9 5;plain 0 9 0;plain 0 9 0, through = 14");
        Calls.due("17 a STEP between, 0 at least", "tell sort 0 4 5;plain 0 9 0;plain 0 9 0;plain 0 9 0, through = 27");
        Calls.due("17 NOTHING is 3", "tell nothing 0 30 0;nothing 0 1 0, through = 6");
        Calls.due("17 a fresh NOSE", "tell sort 0 9 0;plain 0 9 0, 11 times visit 0, through = 9");
        Calls.due("17 without a COLD", "tell plain 0 9 0;plain 2 9 0, cold 50, through = 18");
        Calls.due("17 at PLACE 0", "tell sort 0 9 5;plain 0 9 0;plain 0 9 0, visit 1, through = 14");
        Calls.due("17 where they are now", "tell " + TIRE_NOT + "sort 0 9 0;plain 0 20 0;plain 1 20 0, through = 36, wind, through = 40, undo, through = 36");
        Calls.due("17 as it is back", "tell " + TIRE_NOT + "sort 0 9 0;plain 0 20 0;plain 1 20 0, keep 0, wind, through = 40, back 0, through = 36");
    }

    private static void changeNone() {
        Calls.due("18 no SHOPS", "change = NONE");
        Calls.due("18 one SHOP", "tell plain 0 9 0, change = NONE");
        Calls.due("18 no more than it is", "tell " + SIX + ", change = NONE");
        Calls.due("18 less than it is", "tell " + TIRE_NOT + "sort 0 9 0;plain 1 20 0;plain 0 20 0, through = 40, change = NONE");
    }

    private static void change() {
        Calls.due("18 the first two", "tell " + TIRE_NOT + "sort 0 9 0;plain 0 20 0;plain 1 20 0, through = 36, change = 1");
        Calls.due("18 by one more than it is", "tell " + TIRE_NOT + "sort 0 2 0;plain 0 20 0;plain 1 20 0, through = 39, change = 1");
        Calls.due("18 the last two", "tell sort 0 9 0;sort 1 9 0;sort 2 0 0;plain 2 20 0;plain 2 20 0;plain 2 20 0;plain 2 20 0;plain 0 20 0;plain 1 20 0, "
            + "through = 116, change = 45");
        Calls.due("18 the first and the last", "tell " + TIRE_NOT + "sort 0 9 0;plain 0 20 0;nothing 0 1 0;nothing 0 1 0;nothing 0 1 0;plain 1 20 0, "
            + "through = 45, change = 4");
        Calls.due("18 of several pairs the first", "tell " + TIRE_NOT + "sort 0 9 0;plain 2 9 0;plain 3 9 0;plain 0 20 0;plain 1 20 0, through = 54, change = 3");
        Calls.due("18 by numbers, where they are now", "tell " + TIRE_NOT + "sort 0 9 0;plain 1 20 0;plain 0 20 0, wind, through = 36, change = 1, visit 0, change = 1");
        Calls.due("18 a fresh NOSE", "tell " + TIRE_NOT + "sort 0 9 0;plain 0 20 0;plain 1 20 0, cold 50, 5 times visit 0, visit 1, change = 1");
        Calls.due("18 PLACES are not exchanged by it", "tell " + TIRE_NOT + "sort 0 9 0;plain 0 20 0;plain 1 20 0, change = 1, change = 1, shop 0 4 = 0, through = 36");
    }

    private static void coffeeAt() {
        for (String what : new String[] {"-1", "2", "MIN", "MAX"}) {
            Calls.refused("19 what", WALKED, "coffeeAt " + what, OUTSIDE);
            Calls.refused("19 OUTSIDE without SHOPS", "idle 1", "coffeeAt " + what, OUTSIDE);
        }
        Calls.due("19 no SHOPS", "coffeeAt 0 = NONE, coffeeAt 1 = NONE");
        Calls.due("19 SHOPS were shut", "tell " + SIX + ", tell shut, coffeeAt 0 = NONE, coffeeAt 1 = NONE");
        Calls.due("19 one SHOP", "tell plain 0 30 0, coffeeAt 0 = 0, coffeeAt 1 = 0");
        Calls.due("19 all others smell of 0", "tell sort 3 9 0;plain 3 1 0, visit 0, coffeeAt 0 = 0, coffeeAt 1 = 0");
        Calls.due("19 the first", "tell " + TIRE_NOT + "plain 0 1 0;plain 0 9 0;plain 0 9 0, coffeeAt 0 = 0, coffeeAt 1 = 18");
        Calls.due("19 the sixth", "tell " + TIRE_NOT + "plain 0 9 0;plain 0 9 0;plain 0 9 0;plain 0 9 0;plain 0 9 0;plain 0 8 0, coffeeAt 0 = 5, coffeeAt 1 = 45");
        Calls.due("19 of several the least", "tell " + TIRE_NOT + SIX + ", coffeeAt 0 = 0, coffeeAt 1 = 45, wind, coffeeAt 0 = 0");
        Calls.due("19 of several, not the first", "tell " + TIRE_NOT + "plain 0 9 0;plain 0 5 0;plain 0 5 0, coffeeAt 0 = 1, coffeeAt 1 = 14");
    }

    private static void coffeeInPlace() {
        Calls.due("19 it may be COFFEE already", "tell sort 0 9 0;plain 0 20 0;coffee 0 5 0;plain 0 20 0, coffeeAt 0 = 1, coffeeAt 1 = 40");
        Calls.due("19 of that one nothing is counted", "tell coffee 0 30 0;plain 0 9 0, coffeeAt 0 = 1, coffeeAt 1 = 30");
        Calls.due("19 in place of MUSK", "tell " + TIRE_NOT + "plain 0 9 0;musk 0 9 0;plain 0 9 0;plain 0 9 0, coffeeAt 0 = 1, coffeeAt 1 = 27");
        Calls.due("19 in place of NOTHING", "tell " + TIRE_NOT + "plain 0 9 0;nothing 0 30 0;plain 0 9 0, coffeeAt 0 = 1, coffeeAt 1 = 18");
        Calls.due("19 10 less of all", "tell sort 0 9 0;sort 1 9 0;plain 0 30 0;plain 0 30 0;nothing 0 1 0;plain 0 30 0;plain 1 30 0, coffeeAt 0 = 2, coffeeAt 1 = 99");
        Calls.due("19 a fresh NOSE", "tell " + TIRE_NOT + "musk 0 20 0;plain 0 9 0, cold 9, 9 times visit 0, coffeeAt 0 = 1, coffeeAt 1 = 20");
        Calls.due("19 where they are now", "tell " + TIRE_NOT + "sort 0 9 0;plain 0 20 0;plain 1 20 0;plain 2 1 0, coffeeAt 0 = 2, coffeeAt 1 = 36, wind, coffeeAt 1 = 40");
        Calls.due("19 it stays what it is", "tell plain 0 9 0;musk 0 9 0, coffeeAt 0, coffeeAt 1, shop 0 0 = 0, shop 1 0 = 1, as 1 2 = 105");
    }

    private static void byLotRefused() {
        for (String shop : new String[] {"-1", "3", "6", "MIN", "MAX"}) {
            Calls.refused("20 no such SHOP", WALKED, "byLot " + shop + " 0 0", UNKNOWN);
            Calls.refused("20 UNKNOWN ahead of OUTSIDE", WALKED, "byLot " + shop + " 31 2", UNKNOWN);
        }
        for (String m : new String[] {"-1", "31", "MIN", "MAX"}) {
            Calls.refused("20 m", WALKED, "byLot 0 " + m + " 0", OUTSIDE);
        }
        for (String part : new String[] {"-1", "2", "MIN", "MAX"}) {
            Calls.refused("20 part", WALKED, "byLot 2 0 " + part, OUTSIDE);
        }
        Calls.due("20 no SHOPS", "byLot 0 0 0 = UNKNOWN, byLot 0 31 2 = UNKNOWN");
        Calls.due("20 SHOPS were shut", "tell " + SIX + ", tell shut;plain 0 9 0, byLot 0 9 0 = 1, byLot 1 0 0 = UNKNOWN");
    }

    private static String odds(String call, int above, int below) {
        return "byLot " + call + " 0 = " + above + ", byLot " + call + " 1 = " + below + ", ";
    }

    private static void byLot() {
        Calls.due("20 one SHOP", "tell plain 0 9 0, " + odds("0 9", 1, 1) + odds("0 10", 0, 1));
        Calls.due("20 m 0 is always", "tell sort 0 9 0;" + SIX + ", " + odds("5 0", 1, 1));
        Calls.due("20 m 30", "tell sort 0 9 0;plain 0 30 0;plain 0 30 0, " + odds("0 30", 1, 2) + odds("1 30", 1, 2));
        Calls.due("20 never: 0 of 1", "tell " + SIX + ", " + odds("0 10", 0, 1) + odds("0 30", 0, 1));
        Calls.due("20 always: 1 of 1", "tell " + TIRE_NOT + SIX + ", " + odds("3 9", 1, 1));
        Calls.due("20 lowest terms of 120 of 720", "tell sort 0 9 0;" + SIX + ", " + odds("0 9", 1, 6) + odds("4 9", 1, 6));
        Calls.due("20 lowest terms of 600 of 720", "tell sort 0 1 0;" + SIX + ", " + odds("0 5", 5, 6) + odds("0 6", 2, 3) + odds("0 7", 1, 2) + odds("0 8", 1, 3));
        Calls.due("20 lowest terms of 2 of 6", "tell sort 0 9 0;plain 0 9 0;plain 0 9 0;plain 0 9 0, " + odds("0 9", 1, 3));
        Calls.due("20 SMELT just m", "tell sort 0 4 0;plain 0 9 0;plain 0 9 0, " + odds("0 5", 1, 1) + odds("0 6", 1, 2));
        Calls.due("20 NOTHING is 3", "tell sort 0 9 0;nothing 0 9 0;plain 0 9 0, " + odds("0 3", 1, 1) + odds("0 4", 0, 1));
        Calls.due("20 from now, TIRED", "tell sort 0 9 0;plain 0 20 0;plain 0 20 0, visit 0, " + odds("1 11", 1, 2) + odds("1 12", 0, 1));
        Calls.due("20 from now, in a COLD", "tell " + TIRE_NOT + "plain 0 9 0;plain 0 9 0, cold 2, " + odds("0 9", 1, 2) + odds("1 9", 0, 1) + odds("1 4", 1, 1));
        Calls.due("20 from where it is", "tell " + TIRE_NOT + "plain 0 9 0;plain 0 9 0, visit 1, cold 2, " + odds("0 9", 0, 1) + odds("1 9", 1, 2));
    }

    private static void ordersRefused() {
        for (String set : NO_SETS) {
            Calls.refused("21 a set with no such SHOP", WALKED, "orders " + set + " 0", UNKNOWN);
            Calls.refused("21 UNKNOWN ahead of OUTSIDE", WALKED, "orders " + set + " 6", UNKNOWN);
        }
        for (String i : new String[] {"-2", "6", "MIN", "MAX"}) {
            Calls.refused("21 i NONE to 5", WALKED, "orders 7 " + i, OUTSIDE);
            Calls.refused("21 i NONE to 5, set 0", WALKED, "orders 0 " + i, OUTSIDE);
        }
        Calls.due("21 without SHOPS one WALK, that of set 0", "orders 0 NONE = 1, orders 0 0 = NONE, orders 0 5 = NONE");
        Calls.due("21 without SHOPS no other set", "orders 1 NONE = UNKNOWN, orders -1 NONE = UNKNOWN, orders 0 6 = OUTSIDE, orders 0 -2 = OUTSIDE");
        Calls.due("21 SHOPS were shut", "tell " + SIX + ", tell shut, orders 0 NONE = 1, orders 1 NONE = UNKNOWN");
    }

    private static void ordersNone() {
        Calls.due("21 nothing BOUGHT", "tell want 30;" + SIX + ", orders 0 NONE = 720, orders 0 0 = 0, orders 0 5 = 5, orders 1 NONE = 0, orders 1 0 = NONE");
        Calls.due("21 all BOUGHT", "tell want 9;" + TIRE_NOT + SIX + ", orders 63 NONE = 720, orders 63 0 = 0, orders 63 5 = 5, orders 0 NONE = 0, orders 0 0 = NONE");
        Calls.due("21 no more than the set", "tell want 9;" + TIRE_NOT + "plain 0 9 0;plain 0 9 0, orders 3 NONE = 2, orders 1 NONE = 0, orders 2 NONE = 0, orders 1 0 = NONE");
        Calls.due("21 one SHOP", "tell plain 0 10 0, orders 1 NONE = 1, orders 1 0 = 0, orders 1 1 = NONE, orders 0 NONE = 0");
        Calls.due("21 there are not so many", "tell want 9;" + TIRE_NOT + "plain 0 9 0;plain 0 9 0, orders 3 1 = 1, orders 3 2 = NONE, orders 3 5 = NONE");
        Calls.due("21 the first that fits", "tell want 9;sort 0 9 0;plain 0 9 0;plain 0 9 0;plain 0 9 0, orders 4 NONE = 2, orders 4 0 = 2, orders 4 1 = 0, orders 4 2 = 1");
        Calls.due("21 PRICES, by which is first", "tell purse 10;want 9;" + TIRE_NOT + "plain 0 9 10;plain 0 9 5;plain 0 9 5, orders 1 NONE = 2, orders 6 NONE = 4, orders 6 0 = 1, orders 7 NONE = 0");
    }

    private static void ordersFresh() {
        String told = "tell purse 10;want 9;sort 0 9 0;plain 0 9 10;plain 0 9 9, ";
        Calls.due("21 a fresh NOSE", told + "9 times visit 0, orders 1 NONE = 1, orders 1 0 = 0, orders 2 0 = 1, orders 0 NONE = 0");
        Calls.due("21 PURSE as told", told + "visit 0, count 2 = 0, orders 1 NONE = 1, orders 2 NONE = 1");
        Calls.due("21 nothing BOUGHT ahead", told + "visit 0, count 5 = 1, orders 1 NONE = 1, orders 3 NONE = 0");
        Calls.due("21 without a COLD", told + "cold 50, orders 1 NONE = 1, orders 2 NONE = 1");
        String far = "tell want 9;sort 0 9 5;plain 1 1 0;plain 0 9 0;plain 0 13 0;plain 2 1 0, ";
        Calls.due("21 from PLACE 0", far + "orders 6 NONE = 18, visit 3, orders 6 NONE = 18");
        Calls.due("21 where they are now", "tell want 9;sort 3 5 1;plain 3 9 0;nothing 0 1 0;plain 3 12 0, orders 5 NONE = 3, orders 5 0 = 0, wind, orders 5 NONE = 3");
    }

    private static void tells() {
        for (String shop : new String[] {"-1", "3", "6", "MIN", "MAX"}) {
            Calls.refused("22 no such SHOP", WALKED, "tells " + shop + " 0 0", UNKNOWN);
            Calls.refused("22 UNKNOWN ahead of OUTSIDE", WALKED, "tells " + shop + " 10 31", UNKNOWN);
            Calls.refused("22 UNKNOWN ahead of FULL", WALKED + "5 times tells 0 0 20", "tells " + shop + " 0 0", UNKNOWN);
        }
        for (String n : new String[] {"-1", "10", "MIN", "MAX"}) {
            Calls.refused("22 0 to 9 VISITS", WALKED, "tells 0 " + n + " 0", OUTSIDE);
            Calls.refused("22 OUTSIDE ahead of FULL", WALKED + "5 times tells 0 0 20", "tells 0 " + n + " 0", OUTSIDE);
        }
        for (String n : new String[] {"-1", "31", "MIN", "MAX"}) {
            Calls.refused("22 SMELT 0 to 30", WALKED, "tells 2 0 " + n, OUTSIDE);
        }
        Calls.refused("22 6 at most", WALKED + "tells 0 9 0, 4 times tells 0 0 20", "tells 0 0 0", FULL);
        Calls.refused("22 6 at most, the same again", WALKED + "tells 0 9 0, 4 times tells 0 0 20", "tells 0 0 20", FULL);
        Calls.due("22 least numbers", "tell plain 0 9 0, tells 0 0 0 = 1, count 8 = 1");
        Calls.due("22 most numbers", "tell " + SIX + ", tells 5 9 30 = 1");
        Calls.due("22 the sixth", "tell plain 0 9 0, 5 times tells 0 0 9, tells 0 0 9 = 6, tells 0 0 9 = FULL");
        Calls.due("22 no SHOPS", "tells 0 0 0 = UNKNOWN, tells 0 10 31 = UNKNOWN, count 8 = 0");
        Calls.due("22 room again behind a TEXT", "tell plain 0 9 0, 6 times tells 0 0 9, tell want 5, tells 0 0 9 = 1");
        Calls.due("22 room again behind forget()", "tell plain 0 9 0, 6 times tells 0 0 9, forget = 6, 5 times tells 0 0 9, tells 0 0 9 = 6, tells 0 0 9 = FULL");
    }

    private static void forget() {
        Calls.due("23 none", "forget = 0, forget = 0");
        Calls.due("23 one", "tell plain 0 9 0, tells 0 0 0, smallest 0 = NONE, forget = 1, smallest 0 = 0, forget = 0");
        Calls.due("23 six", "tell plain 0 9 0, 6 times tells 0 0 0, forget = 6, count 8 = 0");
        Calls.due("23 forgotten ones are in no later TELLS", "tell plain 0 9 0, tells 0 0 9, tells 0 0 0, forget = 2, tells 0 0 9 = 1, smallest 0 = 0");
        Calls.due("23 walks stay", "tell plain 0 9 0, visit 0, keep 0, tells 0 0 0, forget = 1, count 7 = 9, count 9 = 1, back 0 = 0");
    }

    private static void smallestBounds() {
        for (String sort : new String[] {"-1", "4", "MIN", "MAX"}) {
            Calls.refused("24 no such SORT", WALKED, "smallest " + sort, UNKNOWN);
        }
        Calls.due("24 no SHOPS, no TELLS", "smallest 0 = 0, smallest 3 = 0");
        Calls.due("24 no TELLS", "tell sort 0 9 0;plain 0 9 0, smallest 0 = 0");
        String told = "tell plain 0 9 0;plain 3 30 0, ";
        Calls.due("24 no TELLS of that SORT", told + "tells 0 1 0, smallest 1 = 0, smallest 2 = 0, smallest 3 = 0, smallest 0 = 9");
        Calls.due("24 TIRE 0", told + "tells 0 9 9, smallest 0 = 0");
        Calls.due("24 TIRE 9", told + "tells 1 1 21, smallest 3 = 9");
        Calls.due("24 TIRE 10 is none", told + "tells 1 1 20, smallest 3 = NONE");
        Calls.due("24 less than TIRE 0 is none", told + "tells 0 1 10, smallest 0 = NONE");
        Calls.due("24 between two is none", told + "tells 1 2 25, smallest 3 = NONE");
        Calls.due("24 the least of several", told + "tells 0 2 0, smallest 0 = 5");
        Calls.due("24 0 at least: just so", told + "tells 0 3 0, smallest 0 = 3");
        Calls.due("24 9 VISITS", told + "tells 1 9 3, smallest 3 = 3, tells 1 9 0, smallest 3 = NONE");
        Calls.due("24 0 VISITS", told + "tells 0 0 9, smallest 0 = 0, tells 0 0 8, smallest 0 = NONE");
        Calls.due("24 all TELLS of six", told + "5 times tells 0 2 0, tells 0 1 2, smallest 0 = 7");
        Calls.due("24 all TELLS of six, the first", told + "tells 0 1 2, 5 times tells 0 2 0, smallest 0 = 7");
        Calls.due("24 of two SHOPS of one SORT", "tell plain 0 9 0;plain 0 30 0, tells 0 2 0, smallest 0 = 5, tells 1 2 18, smallest 0 = 6, tells 1 0 9, smallest 0 = NONE");
    }

    private static void smallestKinds() {
        Calls.due("24 MUSK by 2 more", "tell musk 0 20 0, tells 0 1 18, smallest 0 = 0, tells 0 2 16, smallest 0 = 0");
        Calls.due("24 MUSK by 11 at most", "tell musk 0 20 0, tells 0 1 9, smallest 0 = 9");
        Calls.due("24 MUSK by 12 is none", "tell musk 0 20 0, tells 0 1 8, smallest 0 = NONE");
        Calls.due("24 MUSK by 1 is none", "tell musk 0 20 0, tells 0 1 19, smallest 0 = NONE");
        Calls.due("24 COFFEE tires not", "tell coffee 0 20 0, tells 0 9 20, smallest 0 = 0, tells 0 9 19, smallest 0 = NONE");
        Calls.due("24 NOTHING is 3", "tell nothing 0 20 0, tells 0 9 3, smallest 0 = 0, tells 0 0 3, smallest 0 = 0, tells 0 0 20, smallest 0 = NONE");
        Calls.due("24 KIN is another SORT", "tell plain 3 20 0;plain 0 20 0, tells 0 2 2, smallest 3 = 9, smallest 0 = 0");
        Calls.due("24 SHOPS of KINDS together", "tell plain 0 20 0;musk 0 20 0, tells 0 2 14, smallest 0 = 3, tells 1 2 10, smallest 0 = 3, tells 1 2 9, smallest 0 = NONE");
    }

    private static void smallestFresh() {
        String told = "tell sort 0 7 5;plain 0 20 0, tells 0 3 8, ";
        Calls.due("24 TIRE as told is none of it", told + "smallest 0 = 4, sort 0 0 = 7");
        Calls.due("24 no STEPS between", "tell sort 0 4 5;plain 0 20 0, tells 0 3 8, smallest 0 = 4");
        Calls.due("24 a fresh NOSE", told + "9 times visit 0, smallest 0 = 4");
        Calls.due("24 no COLD", told + "cold 50, smallest 0 = 4");
        Calls.due("24 walks undone or kept are none of it", told + "keep 0, visit 0, undo, back 0, smallest 0 = 4");
    }
}
