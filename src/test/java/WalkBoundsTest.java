/** Each sentence of A STEP, A VISIT, WIND, COLD and of promises 9 to 15 and 25 that names a boundary, by runs of its own. */
final class WalkBoundsTest {
    private static final int UNKNOWN = Due.UNKNOWN, OUTSIDE = Due.OUTSIDE, NOT = Due.NOT;
    private static final String WALKED = "tell want 9;purse 40;plain 0 20 9;musk 1 20 9;nothing 3 2 1, "
        + "visit 2, wind, keep 1, cold 9, visit 0, tells 0 1 5, text wan, ";
    private static final String SIX = "tell plain 0 9 0;plain 1 9 0;plain 2 9 0;plain 3 9 0;coffee 0 9 0;nothing 0 9 0, ";

    private WalkBoundsTest() {
    }

    static void run() {
        steps();
        colds();
        visitSteps();
        smelt();
        bought();
        paid();
        tired();
        tiredByKinds();
        tiredAtMost();
        visitRefused();
        full();
        fullLasts();
        idle();
        wind();
        cold();
        undoneEach();
        undoneMany();
        undoneNot();
        keep();
        keptAlone();
        back();
        count();
    }

    private static void steps() {
        String told = "tell sort 0 9 2;sort 1 4 5;sort 2 5 5;sort 3 6 5;plain 0 9 50;plain 1 9 50;plain 2 9 50;plain 3 9 50, ";
        Calls.due("2 a STEP: less by REST", told + "visit 0, sort 0 2 = 9, idle 1, sort 0 2 = 7, idle 3, sort 0 2 = 1");
        Calls.due("2 0 at least: REST one more", told + "visit 1, sort 1 2 = 4, idle 1, sort 1 2 = 0");
        Calls.due("2 0 at least: REST just so", told + "visit 2, sort 2 2 = 5, idle 1, sort 2 2 = 0");
        Calls.due("2 0 at least: REST one less", told + "visit 3, sort 3 2 = 6, idle 1, sort 3 2 = 1");
        Calls.due("2 0 at least: not less behind many STEPS", told + "visit 1, idle 20, sort 1 2 = 0, visit 1, sort 1 2 = 4");
        Calls.due("2 0 at least: a fresh NOSE", told + "idle 20, sort 0 2 = 0, visit 0 = 9, sort 0 2 = 9");
        Calls.due("2 REST 0", "tell sort 0 9 0;plain 0 9 50, visit 0, idle 20, sort 0 2 = 9");
        Calls.due("2 each SORT by its own REST", "tell sort 0 0 0;sort 1 0 1;sort 2 0 2;sort 3 0 5;musk 0 9 50, 3 times visit 0, idle 1, "
            + "sort 0 2 = 6, sort 1 2 = 5, sort 2 2 = 4, sort 3 2 = 1");
    }

    private static void colds() {
        Calls.due("2 a COLD is a STEP shorter", "cold 5, idle 2, count 6 = 3");
        Calls.due("2 a COLD of just so many STEPS", "cold 5, idle 5, count 6 = 0");
        Calls.due("2 a COLD is over, not less", "cold 5, idle 6, count 6 = 0, cold 1 = 0");
        Calls.due("2 no COLD stays none", "idle 20, count 6 = 0");
        Calls.due("2 a COLD of 50 STEPS", "cold 50, idle 20, idle 20, count 6 = 10, idle 9, count 6 = 1, idle 1, count 6 = 0");
        Calls.due("2 a COLD that is over on the way", "tell plain 0 9 0;plain 1 9 0, cold 1, visit 1 = 9, count 6 = 0");
        Calls.due("2 a COLD that is just not over", "tell plain 0 9 0;plain 1 9 0, cold 2, visit 1 = 4, count 6 = 1");
        Calls.due("2 no STEP, no shorter COLD", "tell plain 0 9 0, cold 1, visit 0 = 4, count 6 = 1");
    }

    private static void visitSteps() {
        Calls.due("2 no STEPS, if it is there", SIX + "visit 0, count 4 = 0, sort 0 2 = 4, visit 0 = 5, count 4 = 0, sort 0 2 = 8");
        Calls.due("2 one STEP to the next", SIX + "visit 1, count 4 = 1, count 3 = 1");
        Calls.due("2 five STEPS to the sixth", SIX + "visit 5, count 4 = 5, count 3 = 5");
        Calls.due("2 five STEPS back", SIX + "visit 5, visit 0, count 4 = 10, count 3 = 0");
        Calls.due("2 STEPS back to one between", SIX + "visit 5, visit 2, count 4 = 8, count 3 = 2");
        Calls.due("2 STEPS from where it is behind WIND", SIX + "wind = 5, visit 5, count 4 = 5, count 3 = 0");
        Calls.due("2 no STEPS behind WIND, if it is there", SIX + "wind = 5, visit 0, count 4 = 0, count 3 = 5");
        Calls.due("2 STEPS are gone ahead of SMELT", "tell sort 0 5 5;plain 0 9 0;plain 0 9 0, visit 0 = 9, visit 1 = 9");
        Calls.due("2 each STEP of more rests", "tell sort 0 9 2;plain 0 9 0;plain 1 9 0;plain 0 9 0, visit 0, visit 2 = 4, sort 0 2 = 14");
    }

    private static void smelt() {
        String told = "tell sort 0 9 0;plain 0 10 0;plain 0 9 0;plain 0 8 0;plain 0 30 0;nothing 0 30 0, visit 0 = 10, ";
        Calls.due("2 STRENGTH one more than TIRED", told + "visit 0 = 1, count 7 = 11");
        Calls.due("2 STRENGTH just TIRED", told + "visit 1 = 0, count 7 = 10");
        Calls.due("2 0 at least", told + "visit 2 = 0, count 7 = 10");
        Calls.due("2 0 at least, TIRED by 99", told + "11 times visit 3, visit 3 = 0, visit 0 = 0");
        Calls.due("2 of STRENGTH 30 and 1", "tell plain 0 30 0;plain 2 1 0, visit 0 = 30, visit 1 = 1");
        Calls.due("2 half of 1, cut", told + "cold 1, visit 0 = 0");
        Calls.due("2 half of 0", told + "cold 5, visit 2 = 0");
        Calls.due("2 half of 9, cut", "tell plain 0 9 0, cold 1, visit 0 = 4, count 7 = 4");
        Calls.due("2 half of 10", "tell plain 0 10 0, cold 1, visit 0 = 5");
        Calls.due("2 half of what is left, not of STRENGTH", "tell sort 0 3 0;plain 0 10 0, visit 0, cold 1, visit 0 = 3");
        Calls.due("2 half in COFFEE and MUSK", "tell coffee 0 9 0;musk 0 9 0, cold 9, visit 0 = 4, visit 1 = 4");
        Calls.due("2 COFFEE is SMELT less TIRED", "tell sort 0 9 0;plain 0 9 0;coffee 0 12 0;coffee 0 9 0, visit 0, visit 1 = 3, visit 0, visit 2 = 0");
        Calls.due("2 NOTHING is 3 of STRENGTH 1", "tell nothing 0 1 0, visit 0 = 3");
        Calls.due("2 NOTHING is 3 of STRENGTH 30", "tell nothing 0 30 0, visit 0 = 3");
        Calls.due("2 NOTHING is 3 in a COLD", "tell nothing 0 30 0, cold 50, visit 0 = 3");
        Calls.due("2 NOTHING is 3, however TIRED", told + "11 times visit 3, visit 4 = 3, cold 9, visit 4 = 3");
    }

    private static void bought() {
        Calls.due("2 SMELT just WANT", "tell want 10;plain 0 10 5, visit 0 = 10, count 5 = 1, count 2 = 55");
        Calls.due("2 SMELT one less than WANT", "tell want 10;plain 0 9 5, visit 0 = 9, count 5 = 0, count 2 = 60");
        Calls.due("2 SMELT one more than WANT", "tell want 10;plain 0 11 5, visit 0 = 11, count 5 = 1, count 2 = 55");
        Calls.due("2 WANT 30", "tell want 30;plain 0 30 5;plain 2 29 5, visit 0, visit 1, count 5 = 1");
        Calls.due("2 WANT 1", "tell want 1;sort 0 9 0;plain 0 9 5;plain 0 9 5;plain 0 10 5, visit 0, visit 1 = 0, count 5 = 1");
        Calls.due("2 WANT 1, SMELT 1", "tell want 1;sort 0 9 0;plain 0 9 5;plain 0 9 5;plain 0 10 5, visit 0, visit 2 = 1, count 5 = 5");
        Calls.due("2 what is SMELT in a COLD", "tell want 10;plain 0 20 5, cold 1, visit 0 = 10, count 5 = 1");
        Calls.due("2 what is SMELT in a COLD, too weak", "tell want 10;plain 0 19 5, cold 1, visit 0 = 9, count 5 = 0");
        Calls.due("2 NOTHING for WANT 3", "tell want 3;nothing 0 1 5, visit 0, count 5 = 1, count 2 = 55");
        Calls.due("2 NOTHING for WANT 4", "tell want 4;nothing 0 30 5, visit 0, count 5 = 0, count 2 = 60");
        Calls.due("2 MUSK and COFFEE are BOUGHT", "tell musk 0 20 1;coffee 0 20 2, visit 0, visit 1, count 5 = 3, count 2 = 57");
        Calls.due("2 BOUGHT ahead of TIRED", "tell want 9;sort 0 9 0;plain 0 9 5, visit 0, count 5 = 1, sort 0 2 = 9");
        Calls.due("2 the sixth is BOUGHT by its bit", "tell shut;plain 0 1 0;plain 0 1 0;plain 0 1 0;plain 0 1 0;plain 0 1 0;plain 0 10 0, visit 5, count 5 = 32, shop 5 5 = 1, shop 4 5 = 0");
        Calls.due("2 not BOUGHT at first, BOUGHT later", "tell want 9;sort 0 0 0;plain 0 9 5, cold 1, visit 0 = 4, count 5 = 0, cold 0, visit 0 = 9, count 5 = 1");
    }

    private static void paid() {
        Calls.due("2 not BOUGHT yet", "tell want 3;nothing 0 1 10, visit 0, count 2 = 50, visit 0, count 2 = 50, count 5 = 1");
        Calls.due("2 PRICE just what is in PURSE", "tell purse 5;plain 0 10 5, visit 0, count 5 = 1, count 2 = 0");
        Calls.due("2 PRICE one more", "tell purse 4;plain 0 10 5, visit 0 = 10, count 5 = 0, count 2 = 4");
        Calls.due("2 PRICE one less", "tell purse 6;plain 0 10 5, visit 0, count 5 = 1, count 2 = 1");
        Calls.due("2 PRICE 0, PURSE 0", "tell purse 0;plain 0 10 0, visit 0, count 5 = 1, count 2 = 0");
        Calls.due("2 PRICE 1, PURSE 0", "tell purse 0;plain 0 10 1, visit 0, count 5 = 0, count 2 = 0");
        Calls.due("2 PRICE 50, PURSE 99", "tell purse 99;plain 0 10 50;plain 2 10 50;plain 2 14 49, visit 0, count 2 = 49, visit 1, count 5 = 1, visit 2, count 5 = 5, count 2 = 0");
        Calls.due("2 what is in PURSE now", "tell purse 10;plain 0 10 6;plain 2 10 5;plain 2 20 4, visit 0, visit 1, count 5 = 1, visit 2, count 5 = 5, count 2 = 0");
        Calls.due("2 what is too dear tires all the same", "tell purse 0;plain 0 10 1, visit 0, sort 0 2 = 4, count 7 = 10");
    }

    private static String tired(int... by) {
        StringBuilder all = new StringBuilder();
        for (int sort = 0; sort < 4; sort++) {
            all.append("sort ").append(sort).append(" 2 = ").append(by[sort]).append(", ");
        }
        return all.toString();
    }

    private static void tired() {
        Calls.due("2 PLAIN: TIRE 9, half cut", "tell sort 0 9 0;plain 0 1 0, visit 0, " + tired(9, 4, 0, 0));
        Calls.due("2 PLAIN: TIRE 8, half", "tell sort 0 8 0;plain 0 1 0, visit 0, " + tired(8, 4, 0, 0));
        Calls.due("2 PLAIN: TIRE 1, half of 1 cut", "tell sort 1 1 0;plain 1 1 0, visit 0, " + tired(0, 1, 0, 0));
        Calls.due("2 PLAIN: TIRE 2", "tell sort 2 2 0;plain 2 1 0, visit 0, " + tired(0, 0, 2, 1));
        Calls.due("2 PLAIN: TIRE 0", "tell sort 0 0 0;plain 0 1 0, visit 0, " + tired(0, 0, 0, 0));
        Calls.due("2 KIN behind 3 comes 0", "tell sort 3 9 0;sort 0 1 0;plain 3 1 0, visit 0, " + tired(4, 0, 0, 9));
        Calls.due("2 KIN by TIRE of the SHOP's SORT", "tell sort 1 9 0;sort 2 0 0;plain 1 1 0, visit 0, " + tired(0, 9, 4, 0));
        Calls.due("2 TIRED more than STRENGTH", "tell sort 0 9 0;plain 0 1 0, visit 0 = 1, visit 0 = 0, " + tired(18, 8, 0, 0));
        Calls.due("2 TIRED the same in a COLD", "tell sort 0 9 0;plain 0 1 0, cold 9, visit 0 = 0, " + tired(9, 4, 0, 0));
    }

    private static void tiredByKinds() {
        Calls.due("2 MUSK: as PLAIN, and of all 2 more", "tell sort 0 9 0;musk 0 1 0, visit 0, " + tired(11, 6, 2, 2));
        Calls.due("2 MUSK of 3", "tell sort 3 5 0;musk 3 1 0, visit 0, " + tired(4, 2, 2, 7));
        Calls.due("2 MUSK: TIRE 0", "tell sort 1 0 0;musk 1 1 0, visit 0, " + tired(2, 2, 2, 2));
        Calls.due("2 MUSK: TIRE 1", "tell sort 1 1 0;musk 1 1 0, visit 0, " + tired(2, 3, 2, 2));
        String told = "tell sort 0 9 0;sort 1 0 0;sort 2 0 0;sort 3 0 0;musk 0 1 0;coffee 2 1 0;nothing 0 1 0, ";
        Calls.due("2 COFFEE: 0 at least, a fresh NOSE", told + "visit 1, " + tired(0, 0, 0, 0) + "visit 0, " + tired(11, 6, 2, 2));
        Calls.due("2 COFFEE: 10 less of 11, 0 at least of 6 and 2", told + "visit 0, " + tired(11, 6, 2, 2) + "visit 1, " + tired(1, 0, 0, 0));
        Calls.due("2 COFFEE: 10 less of all", told + "6 times visit 0, " + tired(66, 36, 12, 12) + "visit 1, " + tired(56, 26, 2, 2));
        Calls.due("2 COFFEE: of 10 none is left", told + "5 times visit 0, " + tired(55, 30, 10, 10) + "visit 1, " + tired(45, 20, 0, 0));
        Calls.due("2 COFFEE tires of none", "tell sort 0 9 0;coffee 0 9 0, visit 0, " + tired(0, 0, 0, 0));
        Calls.due("2 NOTHING tires of none", told + "visit 0, visit 2, " + tired(11, 6, 2, 2));
        Calls.due("2 NOTHING rests of none", "tell sort 0 9 0;nothing 0 9 0, visit 0, " + tired(0, 0, 0, 0));
    }

    private static void tiredAtMost() {
        String told = "tell sort 0 9 1;sort 1 9 1;sort 2 9 1;plain 0 1 50;plain 1 1 50;plain 2 1 50;musk 0 1 50, ";
        Calls.due("2 just 99", told + "11 times visit 0, sort 0 2 = 99, visit 0, sort 0 2 = 99");
        Calls.due("2 99 at most, from 91", told + "11 times visit 0, idle 8, sort 0 2 = 91, visit 0, sort 0 2 = 99");
        Calls.due("2 just 99, from 90", told + "11 times visit 0, idle 9, sort 0 2 = 90, visit 0, sort 0 2 = 99");
        Calls.due("2 98, from 89", told + "11 times visit 0, idle 10, sort 0 2 = 89, visit 0, sort 0 2 = 98");
        Calls.due("2 a STEP from 99, not from more", told + "20 times visit 0, idle 1, sort 0 2 = 98");
        Calls.due("2 99 of KIN at most", told + "12 times visit 1, idle 2, visit 0, sort 1 2 = 99");
        Calls.due("2 just 99 of KIN", told + "visit 1, 10 times visit 1, idle 3, visit 0, sort 1 2 = 99");
        Calls.due("2 98 of KIN", told + "11 times visit 1, idle 4, visit 0, sort 1 2 = 98");
        Calls.due("2 99 of another SORT at most, by MUSK", told + "11 times visit 2, visit 3, sort 2 2 = 99, visit 3, sort 2 2 = 99");
        Calls.due("2 just 99 of another SORT, by MUSK", told + "11 times visit 2, idle 1, visit 3, sort 2 2 = 99");
        Calls.due("2 98 of another SORT, by MUSK", told + "11 times visit 2, idle 2, visit 3, sort 2 2 = 98");
        Calls.due("2 99 at most, by MUSK of its own", told + "visit 3, 9 times visit 3, sort 0 2 = 99, sort 1 2 = 60, visit 3, sort 0 2 = 99, sort 1 2 = 66");
        Calls.due("2 COFFEE from 99", "tell sort 0 9 0;plain 0 1 50;coffee 0 1 50, 20 times visit 0, visit 1, sort 0 2 = 89");
    }

    private static void visitRefused() {
        for (String shop : new String[] {"-1", "3", "6", "MIN", "MAX"}) {
            Calls.refused("9 no such SHOP", WALKED, "visit " + shop, UNKNOWN);
        }
        Calls.refused("9 no SHOPS", "idle 3, cold 2", "visit 0", UNKNOWN);
        Calls.refused("9 shut", "tell plain 0 9 0;plain 0 9 0;shut;plain 0 9 0, visit 0", "visit 1", UNKNOWN);
        Calls.due("9 the least and the most SHOP", SIX + "visit 0 = 9, visit 5 = 3");
    }

    /** 512 calls are just enough to come to 10000 steps. */
    private static void full() {
        String shop = "text musk0 9 0, lane, ";
        Calls.due("9 9999 STEPS gone ahead of it", shop + "499 times idle 20, idle 19 = 9999, visit 0 = 9");
        Calls.due("9 10000 STEPS gone ahead of it", shop + "500 times idle 20, visit 0 = FULL, count 4 = 10000");
        Calls.due("9 FULL: nothing SMELT", shop + "500 times idle 20, visit 0 = FULL, count 7 = 0");
        Calls.due("9 FULL: not TIRED", shop + "500 times idle 20, visit 0 = FULL, sort 0 2 = 0");
        Calls.due("9 FULL: nothing to undo by it", shop + "499 times idle 20, idle 20, visit 0 = FULL, undo = 7");
        Calls.due("9 UNKNOWN ahead of FULL", shop + "500 times idle 20, visit 1 = UNKNOWN, visit -1 = UNKNOWN");
        Calls.due("9 UNKNOWN ahead of FULL, no SHOPS", "501 times idle 20, visit 0 = UNKNOWN");
        Calls.due("10 9999 STEPS gone ahead of it", "499 times idle 20, idle 19 = 9999, idle 20 = 10019, idle 1 = FULL");
        Calls.due("10 10000 STEPS gone ahead of it", "499 times idle 20, idle 20 = 10000, idle 1 = FULL, count 4 = 10000, count 9 = 8");
        Calls.due("10 just over", "499 times idle 20, idle 19 = 9999, idle 1 = 10000, idle 1 = FULL");
        Calls.due("10 FULL: a COLD stays", "500 times idle 20, cold 9 = 0, idle 9 = FULL, count 6 = 9");
        Calls.due("10 OUTSIDE ahead of FULL", "500 times idle 20, idle 0 = OUTSIDE, idle 21 = OUTSIDE, idle -1 = OUTSIDE, idle 20 = FULL");
    }

    private static void fullLasts() {
        Calls.due("10 undone, there is room again", "500 times idle 20, idle 1 = FULL, undo = 7, idle 20 = 10000, idle 1 = FULL");
        Calls.due("10 back, there is room again", "keep 0, 500 times idle 20, keep 1 = 10000, idle 1 = FULL, back 0 = 0, idle 1 = 1, back 1 = 10000, idle 1 = FULL");
        Calls.due("10 told anew, there is room again", "500 times idle 20, idle 1 = FULL, text shut, lane = 1, idle 1 = 1");
        Calls.due("11 WIND is not FULL", "text musk0 9 0, lane, 500 times idle 20, wind = 0, count 9 = 8");
        Calls.due("12 a COLD is not FULL", "500 times idle 20, cold 5 = 0, cold 6 = 5");
        Calls.due("16 foretold walks are not FULL", "text musk0 9 0, lane, 500 times idle 20, best 1 9 1 = 9");
        Calls.due("20 foretold lots are not FULL", "text musk0 9 0, lane, 500 times idle 20, byLot 0 9 0 = 1");
    }

    private static void idle() {
        for (String n : new String[] {"0", "-1", "21", "MIN", "MAX"}) {
            Calls.refused("10 1 to 20 STEPS", WALKED, "idle " + n, OUTSIDE);
        }
        Calls.due("10 1 STEP", "idle 1 = 1, count 4 = 1");
        Calls.due("10 20 STEPS", "idle 20 = 20, count 4 = 20");
        Calls.due("10 how many were gone, all together", "tell plain 0 1 0;plain 0 1 0, visit 1, idle 3 = 4, visit 0, idle 1 = 6");
        Calls.due("10 on the spot", "tell plain 0 1 0;plain 0 1 0, visit 1, idle 20, count 3 = 1, count 7 = 1");
        Calls.due("10 without SHOPS", "idle 5 = 5, idle 5 = 10, count 3 = 0");
    }

    private static void wind() {
        Calls.refused("11 no SHOPS", "idle 3, cold 2", "wind", NOT);
        Calls.refused("11 SHOPS were shut", "tell plain 0 9 0;plain 0 9 0, visit 1, tell shut", "wind", NOT);
        Calls.due("11 one SHOP", "tell plain 0 9 0, wind = 0, shop 0 4 = 0, count 9 = 1");
        Calls.due("11 two SHOPS", "tell plain 0 9 0;plain 0 9 0, wind = 1, shop 0 4 = 1, shop 1 4 = 0");
        Calls.due("11 six SHOPS, from PLACE 0", SIX + "wind = 5, count 3 = 5, shop 0 4 = 5, shop 2 4 = 3, shop 5 4 = 0");
        Calls.due("11 six SHOPS, from PLACE 5", SIX + "visit 5, wind = 0, count 3 = 0");
        Calls.due("11 six SHOPS, from PLACE 2", SIX + "visit 2, wind = 3, shop 2 4 = 3, shop 3 4 = 2");
        Calls.due("11 the middle of three", "tell plain 0 9 0;plain 0 9 0;plain 0 9 0, visit 1, wind = 1, shop 1 4 = 1, shop 0 4 = 2");
        Calls.due("11 twice round", SIX + "visit 4, wind = 1, wind = 4, shop 0 4 = 0, shop 5 4 = 5");
        Calls.due("11 no STEP by it", SIX + "cold 5, visit 0, wind, count 4 = 0, count 6 = 5, sort 0 2 = 4");
    }

    private static void cold() {
        for (String n : new String[] {"-1", "51", "MIN", "MAX"}) {
            Calls.refused("12 0 to 50 STEPS", WALKED, "cold " + n, OUTSIDE);
        }
        Calls.due("12 0 STEPS", "cold 7, cold 0 = 7, count 6 = 0");
        Calls.due("12 50 STEPS", "cold 50 = 0, count 6 = 50, cold 0 = 50");
        Calls.due("12 in place of a longer one", "cold 9, cold 3 = 9, count 6 = 3");
        Calls.due("12 in place of a shorter one", "cold 3, cold 9 = 3, count 6 = 9");
        Calls.due("12 how long there was, behind STEPS", "cold 9, idle 4, cold 1 = 5");
        Calls.due("12 0 STEPS: SMELT is whole", "tell plain 0 9 0, cold 9, cold 0, visit 0 = 9");
    }

    private static void undoneEach() {
        String told = "tell purse 40;plain 0 20 9;plain 1 20 9;plain 0 20 9, visit 2, cold 9, ";
        String then = "count 2 = 31, count 3 = 2, count 4 = 2, count 5 = 4, count 6 = 9, count 7 = 20, sort 0 2 = 4, sort 1 2 = 2, shop 0 4 = 0";
        Calls.due("13 visit() is undone", told + "visit 0, undo = 2, " + then);
        Calls.due("13 idle() is undone", told + "idle 20, undo = 2, " + then);
        Calls.due("13 wind() is undone", told + "wind, undo = 2, " + then);
        Calls.due("13 cold() is undone", told + "cold 50, undo = 2, " + then);
        Calls.due("13 the latest alone", told + "idle 1, visit 1, undo = 3, count 4 = 3, undo = 2, " + then);
        Calls.due("13 cold() by which nothing became other", told + "cold 9, count 9 = 3, undo = 2, " + then);
        Calls.due("13 cold(0) without one", "cold 0, count 9 = 1, undo = 0, undo = NOT");
        Calls.due("13 wind() of one SHOP", "tell plain 0 9 0, wind, count 9 = 1, undo = 0, undo = NOT");
        Calls.due("13 a SHOP is not BOUGHT then", "tell plain 0 20 9, visit 0, undo = 0, count 5 = 0, shop 0 5 = 0, visit 0, count 5 = 1, count 2 = 51");
    }

    private static void undoneMany() {
        Calls.due("13 none", "undo = NOT, count 9 = 0");
        Calls.due("13 one", "idle 1, count 9 = 1, undo = 0, undo = NOT, count 4 = 0");
        Calls.due("13 the last 8", "8 times idle 1, count 9 = 8, undo = 7, undo = 6, 5 times undo, undo = 0, undo = NOT, count 4 = 0");
        Calls.due("13 not the ninth from last", "9 times idle 1, count 9 = 8, undo = 7, 6 times undo, undo = 0, undo = NOT, count 4 = 1");
        Calls.due("13 the last 8 of 20", "20 times idle 1, count 9 = 8, 8 times undo, undo = NOT, count 4 = 12");
        Calls.due("13 the last 8 of 16", "16 times idle 1, 8 times undo, undo = NOT, count 4 = 8");
        Calls.due("13 8 again behind undone ones", "8 times idle 1, 3 times undo, 3 times idle 2, count 9 = 8, 8 times undo, undo = NOT, count 4 = 0");
        Calls.due("13 8 at most behind undone ones", "8 times idle 1, 3 times undo, 4 times idle 2, count 9 = 8, 8 times undo, undo = NOT, count 4 = 1");
        Calls.due("13 one behind all undone", "9 times idle 1, 8 times undo, idle 2 = 3, count 9 = 1, undo = 0, count 4 = 1, undo = NOT");
        Calls.due("13 in turn", "100 times idle 1, undo = 7, idle 1 = 100, undo = 7, undo = 6, count 4 = 98");
    }

    private static void undoneNot() {
        Calls.refused("13 none", "tell plain 0 20 9;plain 0 20 9, visit 1, wind, keep 0, back 0, text ab, tells 0 1 1", "undo", NOT);
        Calls.due("13 refused ones are none", "tell plain 0 9 0, visit 1, visit -1, idle 0, idle 21, cold -1, cold 51, back 0, count 9 = 0, undo = NOT");
        Calls.due("13 wind() refused is none", "wind = NOT, count 9 = 0, undo = NOT");
        Calls.due("13 what foretells is none", "tell plain 0 9 0, best 1 0 0, through, change, coffeeAt 0, byLot 0 0 0, orders 1 0, count 9 = 0");
        Calls.due("13 keep(), tells(), forget(), write(), erase() are none", "tell plain 0 9 0, keep 0, tells 0 0 9, forget, write 97, erase, count 9 = 0, undo = NOT");
        Calls.due("13 TELLS stay", "tell plain 0 9 0, idle 1, tells 0 0 9, tells 0 0 9, undo = 0, count 8 = 2");
        Calls.due("13 THE TEXT stays", "idle 1, text ab, undo = 0, count 10 = 2");
        Calls.due("13 what was kept stays", "idle 1, idle 4, keep 1 = 5, undo = 1, count 4 = 1, back 1 = 5");
        Calls.due("13 undone is not redone", "idle 1, undo = 0, undo = NOT, count 4 = 0");
    }

    private static void keep() {
        for (String k : new String[] {"-1", "2", "MIN", "MAX"}) {
            Calls.refused("14 no such k", WALKED, "keep " + k, UNKNOWN);
            Calls.refused("15 no such k", WALKED, "back " + k, UNKNOWN);
        }
        Calls.due("14 k 0", "idle 7, keep 0 = 7, idle 1, back 0 = 7, back 1 = NOT");
        Calls.due("14 k 1", "idle 7, keep 1 = 7, idle 1, back 1 = 7, back 0 = NOT");
        Calls.due("14 both", "idle 7, keep 0 = 7, idle 1, keep 1 = 8, back 0 = 7, back 1 = 8, back 0 = 7");
        Calls.due("14 kept again, in place of what was", "idle 7, keep 0 = 7, idle 1, keep 0 = 8, back 0 = 8");
        Calls.due("14 kept at 0 STEPS", "keep 0 = 0, idle 5, back 0 = 0, count 4 = 0");
        Calls.due("14 kept without SHOPS", "cold 5, keep 0 = 0, cold 9, back 0 = 0, count 6 = 5");
        Calls.due("14 what is kept is not walked on", "idle 1, keep 0 = 1, idle 5, back 0 = 1, idle 5, back 0 = 1");
        Calls.due("14 kept in 0 what came back from 1", "idle 1, keep 1, idle 4, back 1, keep 0 = 1, idle 2, back 0 = 1");
    }

    private static void keptAlone() {
        String told = "tell want 9;purse 40;plain 0 20 9;plain 1 20 8;plain 2 20 7, visit 2, wind, cold 9, keep 0 = 2, "
            + "cold 40, wind, visit 0, visit 1, idle 20, back 0 = 2, ";
        Calls.due("14 how TIRED", told + tired(0, 0, 4, 2));
        Calls.due("14 PURSE", told + "count 2 = 33");
        Calls.due("14 PLACE", told + "count 3 = 0");
        Calls.due("14 STEPS", told + "count 4 = 2");
        Calls.due("14 BOUGHT", told + "count 5 = 4, shop 0 5 = 0, shop 2 5 = 1");
        Calls.due("14 the COLD", told + "count 6 = 9");
        Calls.due("14 SMELT", told + "count 7 = 20");
        Calls.due("14 PLACES of SHOPS, too", told + "shop 0 4 = 2, shop 1 4 = 1, shop 2 4 = 0");
        Calls.due("14 but THE TEXT", "text abc, keep 0, text de, back 0, count 10 = 5, erase = 5, back 0, count 10 = 0");
        Calls.due("14 but TELLS", "tell plain 0 9 0, tells 0 0 9, keep 0, tells 0 0 9, back 0, count 8 = 2, forget = 2, back 0, count 8 = 0");
        Calls.due("14 but what can be undone", "idle 1, idle 1, keep 0, count 9 = 2, back 0 = 2, count 9 = 0, undo = NOT");
        Calls.due("14 what can be undone stays by it", "idle 1, idle 1, keep 0, undo = 1, count 4 = 1");
    }

    private static void back() {
        Calls.refused("15 nothing was kept in 0", WALKED, "back 0", NOT);
        Calls.refused("15 nothing was kept", "idle 3, cold 7", "back 1", NOT);
        Calls.refused("15 nothing was kept since the last TEXT", "keep 0, keep 1, tell plain 0 9 0, visit 0, idle 2", "back 0", NOT);
        Calls.refused("15 nothing was kept in 1 since the last TEXT", "keep 0, keep 1, tell want 5, keep 0", "back 1", NOT);
        Calls.due("15 a TEXT that was refused is none", "idle 3, keep 0, text want 0, lane = NOT, back 0 = 3");
        Calls.due("15 UNKNOWN ahead of NOT", "back 2 = UNKNOWN, back -1 = UNKNOWN, back 0 = NOT");
        Calls.due("15 nothing can be undone", "keep 0, 9 times idle 1, back 0 = 0, count 9 = 0, undo = NOT");
        Calls.due("15 what comes then can be undone", "idle 3, keep 0, 9 times idle 1, back 0 = 3, idle 1 = 4, count 9 = 1, undo = 0, count 4 = 3, undo = NOT");
        Calls.due("15 twice", "idle 3, keep 0, idle 1, back 0 = 3, back 0 = 3");
        Calls.due("15 without steps between", "keep 1 = 0, back 1 = 0, count 9 = 0");
    }

    private static void count() {
        for (String what : new String[] {"-1", "11", "MIN", "MAX"}) {
            Calls.refused("25 what", WALKED, "count " + what, OUTSIDE);
        }
        Calls.due("25 the least", SIX + "count 0 = 6");
        Calls.due("25 the most", "160 times write 1, count 10 = 160");
        Calls.due("25 BOUGHT by bits, none", SIX + "visit 0, count 5 = 0");
        Calls.due("25 BOUGHT by bits, all", "tell want 1;plain 0 30 0;plain 1 30 0;plain 2 30 0;plain 3 30 0;coffee 0 30 0;nothing 0 1 0, "
            + "visit 0, visit 1, visit 2, visit 3, visit 4, visit 5, count 5 = 63");
        Calls.due("25 TELLS, none and six", "tell plain 0 9 0, count 8 = 0, 6 times tells 0 0 9, count 8 = 6, tells 0 0 9 = FULL, count 8 = 6");
        Calls.due("25 can be undone, none and eight", "count 9 = 0, 9 times cold 1, count 9 = 8");
        Calls.due("25 PURSE now, as told 0 and 99", "tell purse 0, count 2 = 0, tell purse 99, count 2 = 99");
        Calls.due("25 SMELT of all together", "tell sort 0 9 0;plain 0 30 0, visit 0, visit 0, visit 0, visit 0, count 7 = 66, visit 0, count 7 = 66");
    }
}
