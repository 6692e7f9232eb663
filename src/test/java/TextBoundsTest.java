/** Each sentence of THE TEXT and of promises 1 to 8 that names a boundary, by runs of its own. */
final class TextBoundsTest {
    private static final int NONE = Due.NONE, UNKNOWN = Due.UNKNOWN, OUTSIDE = Due.OUTSIDE, NOT = Due.NOT;
    private static final String SIX = "musk0 1 0;musk1 2 1;musk2 3 2;musk3 4 3;musk0 5 4;musk1 6 5";
    private static final String WALKED = "tell want 9;purse 40;plain 0 20 9;musk 1 20 9;coffee 2 20 9;nothing 3 2 1, "
        + "visit 3, wind, cold 9, idle 3, visit 0, tells 0 1 5, keep 0, keep 1, ";

    private TextBoundsTest() {
    }

    static void run() {
        newObject();
        write();
        erase();
        lettersOfTokens();
        blanks();
        words();
        numbersOfDigits();
        numbersInBounds();
        endsTooSoon();
        firstFault();
        clauses();
        seventhShop();
        laneRefused();
        laneCounts();
        laneInOrder();
        freshBehindText();
        sort();
        shop();
        smeltThere();
        as();
        asHeld();
    }

    private static void newObject() {
        for (int sort = 0; sort < 4; sort++) {
            Calls.due("1 TIRE is 4 at first", "sort " + sort + " 0 = 4");
            Calls.due("1 REST is 1 at first", "sort " + sort + " 1 = 1");
            Calls.due("1 TIRED of none at first", "sort " + sort + " 2 = 0");
        }
        Calls.due("1 no SHOPS at first", "count 0 = 0, shop 0 0 = UNKNOWN, as 0 0 = UNKNOWN, visit 0 = UNKNOWN");
        Calls.due("1 WANT is 10 at first", "count 1 = 10");
        Calls.due("1 PURSE is 60 at first", "count 2 = 60");
        Calls.due("1 at PLACE 0 at first", "count 3 = 0");
        Calls.due("1 no STEPS at first", "count 4 = 0");
        Calls.due("1 nothing is BOUGHT at first", "count 5 = 0");
        Calls.due("1 no COLD at first", "count 6 = 0");
        Calls.due("1 nothing SMELT at first", "count 7 = 0");
        Calls.due("1 no TELLS at first", "count 8 = 0, forget = 0");
        Calls.due("1 nothing can be undone at first", "count 9 = 0, undo = NOT");
        Calls.due("1 THE TEXT is empty at first", "count 10 = 0, erase = 0, fault = 0, lane = NOT");
        Calls.due("1 nothing is kept at first", "back 0 = NOT, back 1 = NOT");
        Calls.due("1 THE LANE is empty at first", "wind = NOT, through = 0, change = NONE, coffeeAt 0 = NONE, coffeeAt 1 = NONE");
        Calls.due("1 the empty set at first", "best 0 30 0 = 0, best 0 30 1 = 0, best 0 30 2 = NONE, orders 0 NONE = 1");
        Calls.due("1 no lots at first", "byLot 0 0 0 = UNKNOWN, tells 0 0 0 = UNKNOWN, smallest 0 = 0");
        String first = Calls.made("1 two objects", "").all();
        Calls.made("1 two objects", WALKED + "text shut");
        Due.same("1 a new object is as the first, whatever others were told", Calls.made("1 two objects", "").all(), first);
    }

    private static void write() {
        Calls.due("2 the least letter is 0", "write 0 = 1");
        Calls.due("2 the most letter is 255", "write 255 = 1");
        for (String letter : new String[] {"-1", "256", "MIN", "MAX", "65633", "-160"}) {
            Calls.refused("2 no letter", "text want 5", "write " + letter, OUTSIDE);
        }
        Calls.due("2 the first letter", "write 115 = 1, count 10 = 1");
        Calls.due("2 the 160th letter stands", "159 times write 32, write 32 = 160, count 10 = 160");
        Calls.due("2 the 161st is refused", "160 times write 32, write 32 = FULL, write 115 = FULL, count 10 = 160");
        Calls.due("2 OUTSIDE ahead of FULL", "160 times write 32, write 256 = OUTSIDE, write -1 = OUTSIDE, count 10 = 160");
        Calls.due("2 FULL changes no letter", "156 times write 32, text shut, write 59 = FULL, write 0 = FULL, fault = NONE, lane = 1");
        Calls.due("2 room again behind erase()", "160 times write 32, erase = 160, write 32 = 1, 158 times write 32, write 32 = 160");
        Calls.due("2 room again behind lane()", "156 times write 32, text shut, lane = 1, write 32 = 1, 158 times write 32, write 32 = 160, write 32 = FULL");
    }

    private static void erase() {
        Calls.due("3 an empty TEXT had none", "erase = 0, erase = 0");
        Calls.due("3 one letter", "write 0, erase = 1, count 10 = 0");
        Calls.due("3 a full TEXT", "160 times write 255, erase = 160, count 10 = 0, fault = 0");
        Calls.due("3 letters that were erased are in no later TEXT", "text shut;want 5, erase = 11, text shut, fault = NONE, lane = 1, count 1 = 10");
        Calls.due("3 nothing is told by it", "text want 5, erase = 6, lane = NOT, count 1 = 10");
        Calls.due("3 walks stay", "tell plain 0 5 1, visit 0 = 5, keep 0, tells 0 0 5, text shut, erase = 4, count 7 = 5, count 8 = 1, count 9 = 1, back 0 = 0");
    }

    private static void fault(String sentence, String text, int due) {
        Calls with = Calls.made(sentence, "");
        for (int i = 0; i < text.length(); i++) {
            with.call("write " + (int) text.charAt(i));
        }
        String shown = sentence + " '" + text + "'";
        Due.is(shown, with.call("fault"), due);
        Due.is(shown + ": letters stay", with.call("count 10"), text.length());
        Due.is(shown + ": asked again", with.call("fault"), due);
        Due.is(shown + ": lane()", with.call("lane") == NOT ? 1 : 0, due == NONE ? 0 : 1);
        Due.is(shown + ": empty behind lane()", with.call("count 10"), due == NONE ? 0 : text.length());
    }

    private static void lettersOfTokens() {
        fault("4 small letters begin with a", "sh`ut", 0);
        fault("4 ` is another letter", "shut`", 4);
        fault("4 a is a small letter", "shuta", 0);
        fault("4 z is a small letter", "shutz", 0);
        fault("4 { is another letter", "shut{", 4);
        fault("4 big letters are other letters", "shutA", 4);
        fault("4 big letters make no word", "SHUT", 0);
        fault("4 / is no digit", "want 9/", 6);
        fault("4 0 is a digit", "want 90", 5);
        fault("4 9 is a digit", "want 99", 5);
        fault("4 : is no digit", "want 9:", 6);
        fault("4 a letter of 128 and more is no small one", "shut" + (char) ('a' + 128), 4);
        fault("4 a letter of 128 and more is no digit", "want 9" + (char) ('0' + 128), 6);
        fault("4 letter 0", "" + (char) 0, 0);
        fault("4 letter 0 behind", "want 9" + (char) 0, 6);
        fault("4 letter 255", " " + (char) 255, 1);
        fault("4 other letters are a token each", "shut;..", 5);
        fault("4 ; is a token each", "shut;;", 5);
        fault("4 a row of small letters ends at a digit", "want9", NONE);
        fault("4 a row of digits ends at a small letter", "want 9shut", 6);
        fault("4 a row of digits ends at another letter", "want 9;shut", NONE);
        fault("4 a word in one row with the next", "shutshut", 0);
    }

    private static void blanks() {
        fault("4 blanks ahead", "   shut", NONE);
        fault("4 blanks between", "sort   0   1   2   ;   shut", NONE);
        fault("4 blanks behind", "shut   ", NONE);
        fault("4 no blanks but between two numbers", "sort0 1 2;shut;want5", NONE);
        fault("4 two numbers need one", "sort0 12", 5 + 1);
        fault("4 two words need one", "shutwant 5", 0);
        fault("4 a blank within a word", "sh ut", 0);
        fault("4 a blank within a number", "want 1 0", 7);
        fault("4 a tab is no blank", "shut\t", 4);
        fault("4 an end of line is no blank", "\nshut", 0);
        fault("4 letter 160 is no blank", "want" + (char) 160 + "5", 4);
        fault("4 letter 31 is no blank", "want" + (char) 31 + "5", 4);
        fault("4 letter 33 is no blank", "want" + (char) 33 + "5", 4);
        fault("4 blanks alone end too soon", "  ", 2);
        fault("4 160 blanks end too soon", " ".repeat(160), 160);
        fault("4 blanks up to the last letter", " ".repeat(156) + "shut", NONE);
        fault("4 blanks behind up to the last letter", "shut" + " ".repeat(156), NONE);
    }

    private static void words() {
        String[] words = {"lane", "sort", "plain", "musk", "coffee", "nothing", "want", "purse", "shut"};
        String[] numbers = {"", " 0 0 0", " 0 1 0", " 0 1 0", " 0 1 0", " 0 1 0", " 1", " 0", ""};
        for (int i = 0; i < words.length; i++) {
            String word = words[i];
            String rest = numbers[i];
            fault("4 the word", word + rest, NONE);
            fault("4 a letter too few", word.substring(0, word.length() - 1) + rest, 0);
            fault("4 without its first letter", word.substring(1) + rest, 0);
            fault("4 a letter too many", word + "s" + rest, 0);
            fault("4 a letter too many ahead", "a" + word + rest, 0);
            fault("4 its last letter another", word.substring(0, word.length() - 1) + "q" + rest, 0);
            fault("4 its first letter another", "q" + word.substring(1) + rest, 0);
            fault("4 a number where the word is due", "0" + word + rest, 0);
            fault("4 a number too many", word + rest + " 0", (word + rest).length() + 1);
            fault("4 a word where ; is due", word + rest + " " + word, (word + rest).length() + 1);
            fault("4 another letter where ; is due", word + rest + ",", (word + rest).length());
            if (!rest.isEmpty()) {
                fault("4 a word where a number is due", word + " shut", word.length() + 1);
                fault("4 ; where a number is due", word + ";shut", word.length());
                fault("4 a sign where a number is due", word + " -1", word.length() + 1);
                fault("4 a + where a number is due", word + "+1", word.length());
            }
        }
    }

    private static void numbersOfDigits() {
        fault("4 one digit", "want 5", NONE);
        fault("4 two digits", "want 15", NONE);
        fault("4 two digits of which one would do", "want 05", NONE);
        fault("4 three digits", "want 005", 5);
        fault("4 three digits, the last clause", "shut;want 005", 10);
        fault("4 more digits", "purse 000000000000000000000000000", 6);
        fault("4 digits that turn round to a number in bounds", "purse 4294967297", 6);
        fault("4 digits that turn round twice", "purse 18446744073709551617", 6);
        fault("4 three digits of a number in bounds", "sort 0 001 1", 7);
        Calls.due("4 two digits are ten times the first and the second", "tell want 15;purse 07;sort 03 09 05, count 1 = 15, count 2 = 7, sort 3 0 = 9, sort 3 1 = 5");
        Calls.due("4 0 and 9 are digits like others", "tell want 10;purse 90;plain 0 29 09, count 1 = 10, count 2 = 90, shop 0 2 = 29, shop 0 3 = 9");
    }

    private static void numbersInBounds() {
        fault("4 SORT 0 to 3, TIRE 0 to 9, REST 0 to 5: least", "sort 0 0 0", NONE);
        fault("4 SORT 0 to 3, TIRE 0 to 9, REST 0 to 5: most", "sort 3 9 5", NONE);
        fault("4 SORT 4", "sort 4 0 0", 5);
        fault("4 TIRE 10", "sort 3 10 5", 7);
        fault("4 REST 6", "sort 3 9 6", 9);
        fault("4 REST 10", "sort 3 9 10", 9);
        for (String word : new String[] {"plain", "musk", "coffee", "nothing"}) {
            int at = word.length() + 1;
            fault("4 SORT 0 to 3, STRENGTH 1 to 30, PRICE 0 to 50: least", word + " 0 1 0", NONE);
            fault("4 SORT 0 to 3, STRENGTH 1 to 30, PRICE 0 to 50: most", word + " 3 30 50", NONE);
            fault("4 a SHOP's SORT 4", word + " 4 30 50", at);
            fault("4 STRENGTH 0", word + " 3 0 50", at + 2);
            fault("4 STRENGTH 31", word + " 3 31 50", at + 2);
            fault("4 PRICE 51", word + " 3 30 51", at + 5);
            fault("4 PRICE 99", word + " 3 30 99", at + 5);
        }
        fault("4 WANT 1", "want 1", NONE);
        fault("4 WANT 30", "want 30", NONE);
        fault("4 WANT 0", "want 0", 5);
        fault("4 WANT 31", "want 31", 5);
        fault("4 PURSE 0", "purse 0", NONE);
        fault("4 PURSE 99", "purse 99", NONE);
        fault("4 PURSE 100", "purse 100", 6);
        Calls.due("4 least numbers are told", "tell sort 0 0 0;plain 0 1 0;want 1;purse 0, sort 0 0 = 0, sort 0 1 = 0, shop 0 2 = 1, shop 0 3 = 0, count 1 = 1, count 2 = 0");
        for (String word : new String[] {"plain", "musk", "coffee", "nothing"}) {
            Calls.due("4 a SHOP's least numbers are told", "tell " + word + " 0 1 0, shop 0 1 = 0, shop 0 2 = 1, shop 0 3 = 0");
            Calls.due("4 a SHOP's most numbers are told", "tell " + word + " 3 30 50, shop 0 1 = 3, shop 0 2 = 30, shop 0 3 = 50");
        }
        Calls.due("4 most numbers are told", "tell sort 3 9 5;plain 3 30 50;want 30;purse 99, sort 3 0 = 9, sort 3 1 = 5, shop 0 2 = 30, shop 0 3 = 50, count 1 = 30, count 2 = 99");
    }

    private static void endsTooSoon() {
        fault("4 an empty TEXT ends too soon", "", 0);
        fault("4 behind ;", "shut;", 5);
        fault("4 behind ; and blanks", "shut;  ", 7);
        for (String word : new String[] {"sort", "plain", "musk", "coffee", "nothing", "want", "purse"}) {
            fault("4 behind the word", word, word.length());
            fault("4 behind the word and blanks", word + "  ", word.length() + 2);
            if (!word.equals("want") && !word.equals("purse")) {
                fault("4 behind the first number", word + " 1", word.length() + 2);
                fault("4 behind the second number", word + " 1 1", word.length() + 4);
                fault("4 behind the second number and a blank", word + " 1 1 ", word.length() + 5);
            }
        }
        fault("4 at the 160th letter", " ".repeat(156) + "want", 160);
        fault("4 behind ; as the 160th letter", " ".repeat(155) + "shut;", 160);
    }

    private static void firstFault() {
        fault("4 the first of two numbers out of bounds", "sort 4 10 6", 5);
        fault("4 the second, if the first can stand", "sort 3 10 6", 7);
        fault("4 the first of two clauses", "want 0;purse 100", 5);
        fault("4 the second clause", "want 1;purse 100", 13);
        fault("4 a fault ahead of an end too soon", "want 0;", 5);
        fault("4 a fault ahead of a seventh", SIX + ";want 0;musk0 1 0", SIX.length() + 6);
        fault("4 a token that is no letter of a number", "sort 0 . 9", 7);
    }

    private static void clauses() {
        String thirteen = "shut;".repeat(13);
        fault("4 1 clause", "shut", NONE);
        fault("4 no clause ahead of ;", ";shut", 0);
        fault("4 no clause between", "shut; ;shut", 6);
        fault("4 13 clauses", "shut;".repeat(12) + "shut", NONE);
        fault("4 14 clauses", thirteen + "shut", NONE);
        fault("4 14 clauses and blanks", thirteen + "shut   ", NONE);
        fault("4 behind the 13th ; it ends too soon", thirteen, 65);
        fault("4 behind the 14th no ; can stand", thirteen + "shut;", 69);
        fault("4 behind the 14th no ; can stand, behind blanks", thirteen + "shut  ;", 71);
        fault("4 a 15th", thirteen + "shut;shut", 69);
        fault("4 a 15th with a fault of its own", thirteen + "shut;iris", 69);
        fault("4 a fault in the 14th", thirteen + "want 31;shut", 70);
        fault("4 behind the 14th no word can stand", thirteen + "shut shut", 70);
        fault("4 ; behind the 13th can stand", thirteen + "want 5", NONE);
    }

    private static void seventhShop() {
        fault("4 six can stand", SIX, NONE);
        fault("4 a seventh cannot, at its word", SIX + ";musk0 1 0", SIX.length() + 1);
        for (String word : new String[] {"plain", "musk", "coffee", "nothing"}) {
            fault("4 a seventh of any kind", SIX + "; " + word + " 0 1 0", SIX.length() + 2);
            fault("4 a seventh with a fault behind its word", SIX + ";" + word + " 9 99 99", SIX.length() + 1);
        }
        fault("4 a seventh behind shut", SIX + ";shut;musk0 1 0", NONE);
        fault("4 a seventh behind lane", SIX + ";lane;musk0 1 0", NONE);
        fault("4 shut behind the seventh comes too late", SIX + ";musk0 1 0;shut", SIX.length() + 1);
        fault("4 a seventh behind want", SIX + ";want 5;musk0 1 0", SIX.length() + 8);
        fault("4 six, shut, six", SIX + ";shut;" + SIX, NONE);
        fault("4 a seventh behind shut and six", "shut;" + SIX + ";musk0 1 0", SIX.length() + 6);
        String told = "tell " + SIX + ", ";
        Calls.due("4 earlier texts' SHOPS count", told + "text musk0 1 0, fault = 0, lane = NOT, count 0 = 6");
        Calls.due("4 earlier texts' SHOPS but one", "tell musk0 1 0, text " + SIX + ", fault = 50, lane = NOT, count 0 = 1");
        Calls.due("4 a sixth behind five of earlier texts", "tell musk0 1 0;musk0 1 0;musk0 1 0;musk0 1 0;musk0 1 0, text musk0 1 0, fault = NONE, lane = 1, count 0 = 6");
        Calls.due("4 shut ahead of the seventh", told + "text shut;musk0 7 0, fault = NONE, count 0 = 6, lane = 2, count 0 = 1, shop 0 2 = 7, shop 1 0 = UNKNOWN");
        Calls.due("4 lane ahead of the seventh", told + "text lane;musk0 7 0, fault = NONE, count 0 = 6, lane = 2, count 0 = 1");
        Calls.due("4 fault() shuts nothing for the next TEXT", told + "text shut;musk0 7 0, fault = NONE, erase, text musk0 7 0, fault = 0");
        Calls.due("4 fault() opens nothing for the next TEXT", "text " + SIX + ", fault = NONE, erase, text " + SIX + ", fault = NONE, lane = 6");
    }

    private static void laneRefused() {
        for (String text : new String[] {"", "text want 5;want 0", "text shut;", "text shut;shut;want 31", "text lane;iris", "text ;"}) {
            Calls.refused("5 a FAULT", WALKED + text, "lane", NOT);
        }
        Calls.refused("5 a seventh", "tell " + SIX + ", visit 3, keep 1, text musk0 1 0", "lane", NOT);
        Calls.refused("5 a 15th", "tell want 5, text " + "shut;".repeat(13) + "want 6;shut", "lane", NOT);
        Calls.refused("4 fault() alone changes nothing", WALKED + "text shut;want 5", "fault", NONE);
    }

    private static void laneCounts() {
        Calls.due("5 1 clause", "text want 5, lane = 1, count 10 = 0");
        Calls.due("5 14 clauses", "text " + "shut;".repeat(13) + "want 5, lane = 14, count 1 = 5, count 10 = 0");
        Calls.due("5 the TEXT is empty then", "text want 5, lane = 1, lane = NOT, fault = 0, erase = 0");
        Calls.due("5 clauses of an earlier TEXT are not done again", "tell want 5;purse 7;want 6, tell purse 8, count 1 = 6, count 2 = 8");
        Calls.due("5 the 14th SHOP of six", "tell shut;musk0 1 0;shut;musk0 2 0;shut;musk0 3 0;shut;musk0 4 0;shut;musk0 5 0;shut;musk0 6 0;shut;musk0 7 0, count 0 = 1, shop 0 2 = 7");
    }

    private static void laneInOrder() {
        Calls.due("5 the later clause stands", "tell want 5;want 6, count 1 = 6");
        Calls.due("5 lane behind", "tell want 5;purse 7;sort 1 9 5;plain 0 1 0;lane, count 1 = 10, count 2 = 60, sort 1 0 = 4, sort 1 1 = 1, count 0 = 0");
        Calls.due("5 lane ahead", "tell lane;want 5;purse 7;sort 1 9 5;plain 0 1 0, count 1 = 5, count 2 = 7, sort 1 0 = 9, sort 1 1 = 5, count 0 = 1");
        Calls.due("5 shut behind", "tell plain 0 1 0;shut, count 0 = 0, shop 0 0 = UNKNOWN");
        Calls.due("5 shut ahead", "tell shut;plain 0 1 0, count 0 = 1");
        Calls.due("5 shut shuts SHOPS alone", "tell want 5;purse 7;sort 3 9 5, tell shut, count 1 = 5, count 2 = 7, sort 3 0 = 9, sort 3 1 = 5");
        Calls.due("5 shut without SHOPS", "tell shut, count 0 = 0");
        Calls.due("5 SHOPS as they come", "tell plain 0 1 0, tell musk 1 2 1;coffee 2 3 2, shop 0 2 = 1, shop 1 2 = 2, shop 2 2 = 3, count 0 = 3");
        Calls.due("5 what earlier texts told stays", "tell want 5;sort 2 8 3, tell purse 7, count 1 = 5, count 2 = 7, sort 2 0 = 8, sort 2 1 = 3");
        Calls.due("5 a SORT alone", "tell sort 2 8 3, sort 1 0 = 4, sort 3 0 = 4, sort 1 1 = 1, sort 3 1 = 1");
    }

    private static void freshBehindText() {
        for (String text : new String[] {"want 9", "sort 3 4 1", "purse 40"}) {
            String told = WALKED + "tell " + text + ", ";
            Calls.due("5 TIRED of each by 0", told + "sort 0 2 = 0, sort 1 2 = 0, sort 2 2 = 0, sort 3 2 = 0");
            Calls.due("5 at PLACE 0", told + "count 3 = 0");
            Calls.due("5 no STEP was gone", told + "count 4 = 0");
            Calls.due("5 nothing is BOUGHT", told + "count 5 = 0, shop 0 5 = 0");
            Calls.due("5 PURSE as told", told + "count 2 = 40");
            Calls.due("5 no COLD", told + "count 6 = 0");
            Calls.due("5 nothing SMELT", told + "count 7 = 0");
            Calls.due("5 SHOPS are at PLACES by their numbers", told + "shop 0 4 = 0, shop 1 4 = 1, shop 2 4 = 2, shop 3 4 = 3");
            Calls.due("5 no TELLS", told + "count 8 = 0, forget = 0");
            Calls.due("5 nothing is kept", told + "back 0 = NOT, back 1 = NOT");
            Calls.due("5 nothing can be undone", told + "count 9 = 0, undo = NOT");
        }
        Calls.due("5 PURSE as told, not as spent", "tell purse 40;plain 0 20 9, visit 0, count 2 = 31, tell want 5, count 2 = 40");
        Calls.due("5 PURSE as lane tells", "tell purse 40;plain 0 20 9, visit 0, tell lane, count 2 = 60");
        Calls.due("5 at PLACE 0 without SHOPS", WALKED + "tell shut, count 3 = 0, count 2 = 40, count 4 = 0");
        Calls.due("5 a SHOP more behind wind", WALKED + "tell plain 1 5 0, shop 0 4 = 0, shop 4 4 = 4");
    }

    private static void sort() {
        String told = "tell sort 0 9 5;sort 3 1 2;plain 3 9 0, visit 0, ";
        Calls.due("6 the least SORT", told + "sort 0 0 = 9, sort 0 1 = 5, sort 0 2 = 0");
        Calls.due("6 the most SORT", told + "sort 3 0 = 1, sort 3 1 = 2, sort 3 2 = 1");
        for (String sort : new String[] {"-1", "4", "MIN", "MAX", "256"}) {
            Calls.refused("6 no such SORT", told, "sort " + sort + " 0", UNKNOWN);
            Calls.refused("6 UNKNOWN ahead of OUTSIDE", told, "sort " + sort + " 3", UNKNOWN);
        }
        for (String what : new String[] {"-1", "3", "MIN", "MAX"}) {
            Calls.refused("6 what", told, "sort 0 " + what, OUTSIDE);
            Calls.refused("6 what", told, "sort 3 " + what, OUTSIDE);
        }
    }

    private static void shop() {
        String told = "tell " + SIX + ", visit 2, ";
        Calls.due("7 the first SHOP", told + "shop 0 0 = 1, shop 0 1 = 0, shop 0 2 = 1, shop 0 3 = 0, shop 0 4 = 0");
        Calls.due("7 the sixth SHOP", told + "shop 5 0 = 1, shop 5 1 = 1, shop 5 2 = 6, shop 5 3 = 5, shop 5 4 = 5");
        Calls.due("7 KINDS 0 to 3", "tell plain 0 1 0;musk 0 1 0;coffee 0 1 0;nothing 0 1 0, shop 0 0 = 0, shop 1 0 = 1, shop 2 0 = 2, shop 3 0 = 3");
        for (String shop : new String[] {"-1", "6", "MIN", "MAX"}) {
            Calls.refused("7 no such SHOP", told, "shop " + shop + " 0", UNKNOWN);
            Calls.refused("7 UNKNOWN ahead of OUTSIDE", told, "shop " + shop + " 7", UNKNOWN);
        }
        for (String what : new String[] {"-1", "7", "MIN", "MAX"}) {
            Calls.refused("7 what", told, "shop 0 " + what, OUTSIDE);
            Calls.refused("7 what", told, "shop 5 " + what, OUTSIDE);
        }
        Calls.due("7 a SHOP that was shut", told + "tell shut;plain 0 1 0, shop 0 0 = 0, shop 1 0 = UNKNOWN, shop 5 0 = UNKNOWN");
        Calls.due("7 the number behind the last", "tell plain 0 1 0;plain 0 1 0, shop 1 0 = 0, shop 2 0 = UNKNOWN");
        Calls.due("7 1 it is BOUGHT, 0", "tell want 1;plain 0 1 0;plain 1 1 0, visit 1, shop 0 5 = 0, shop 1 5 = 1");
    }

    private static void smeltThere() {
        String told = "tell sort 0 9 0;plain 0 10 0;plain 0 9 0;plain 0 8 0;nothing 0 30 0, visit 0 = 10, ";
        Calls.due("7 STRENGTH more than TIRED", told + "shop 0 6 = 1");
        Calls.due("7 STRENGTH just TIRED", told + "shop 1 6 = 0");
        Calls.due("7 0 at least", told + "shop 2 6 = 0");
        Calls.due("7 half of 1, cut", told + "cold 1, shop 0 6 = 0");
        Calls.due("7 NOTHING is 3, whatever else", told + "shop 3 6 = 3, cold 9, shop 3 6 = 3");
        Calls.due("7 half of 7, cut", "tell plain 0 7 0;plain 0 8 0, cold 1, shop 0 6 = 3, shop 1 6 = 4");
        Calls.due("7 no STEPS to it", "tell sort 0 5 5;plain 0 9 0;plain 1 1 0;plain 0 9 0, visit 0, shop 2 6 = 4, cold 1, shop 2 6 = 2");
        Calls.due("7 NOTHING of STRENGTH 1 is 3", "tell nothing 0 1 0, shop 0 6 = 3");
    }

    private static void as() {
        String told = "tell plain 0 20 9;musk 0 21 10;coffee 0 22 11;nothing 0 23 50, visit 0, ";
        int[][] over = {{1, 1, 0, 0, 0}, {1, 1, 1, 0, 0}, {1, 0, 0, 1, 0}, {1, 0, 0, 0, 1}};
        int[] more = {103, 105, 95, 99};
        for (int shop = 0; shop < 4; shop++) {
            for (int kind = 0; kind <= 4; kind++) {
                String call = "as " + shop + " " + kind;
                if (over[shop][kind] == 1) {
                    Calls.due("8 a KIND that it is", told + call + " = " + more[shop]);
                } else {
                    Calls.refused("8 a KIND that it is not", told, call, NOT);
                }
            }
            for (String kind : new String[] {"-1", "5", "MIN", "MAX"}) {
                Calls.refused("8 no KIND", told, "as " + shop + " " + kind, OUTSIDE);
            }
        }
        for (String shop : new String[] {"-1", "4", "MIN", "MAX"}) {
            Calls.refused("8 no such SHOP", told, "as " + shop + " 0", UNKNOWN);
            Calls.refused("8 UNKNOWN ahead of OUTSIDE", told, "as " + shop + " 5", UNKNOWN);
            Calls.refused("8 UNKNOWN ahead of NOT", told, "as " + shop + " 3", UNKNOWN);
        }
        Calls.refused("8 it changes nothing", told, "as 1 1", 105);
    }

    private static void asHeld() {
        String told = "tell sort 0 9 1;sort 1 5 0;plain 0 20 50;musk 0 20 50;coffee 0 9 50;nothing 0 9 50;coffee 1 9 0, ";
        Calls.due("8 COFFEE from 0: held to 0", told + "as 2 3 = 99, as 2 0 = 99");
        Calls.due("8 COFFEE from 9: held to 0", told + "visit 0, as 2 3 = 90");
        Calls.due("8 COFFEE from 10: just 0", told + "visit 1, idle 1, sort 0 2 = 10, as 2 3 = 89");
        Calls.due("8 COFFEE from 11: 10 less", told + "visit 1, sort 0 2 = 11, as 2 3 = 89");
        Calls.due("8 PLAIN from 90: by 9", told + "10 times visit 0, sort 0 2 = 90, as 0 1 = 108");
        Calls.due("8 PLAIN from 91: held to 99", told + "11 times visit 0, sort 0 2 = 99, idle 8, sort 0 2 = 91, as 0 1 = 107");
        Calls.due("8 PLAIN from 99: by none", told + "11 times visit 0, sort 0 2 = 99, as 0 0 = 99, as 0 1 = 99");
        Calls.due("8 MUSK from 88: by 11", told + "11 times visit 0, idle 11, as 1 2 = 110");
        Calls.due("8 MUSK from 89: held to 99", told + "11 times visit 0, idle 10, as 1 2 = 109, as 1 1 = 109, as 1 0 = 109");
        Calls.due("8 COFFEE from 99", told + "11 times visit 0, as 2 3 = 89");
        Calls.due("8 NOTHING from 99", told + "11 times visit 0, as 3 4 = 99, as 3 0 = 99");
        Calls.due("8 no STEPS to it", told + "visit 0, as 3 4 = 99, as 2 3 = 90, as 1 2 = 110");
        Calls.due("8 of its own SORT", told + "visit 0, sort 1 2 = 4, as 4 3 = 95");
        Calls.due("8 the same in a COLD", told + "cold 9, as 0 1 = 108, as 1 2 = 110");
        Calls.due("8 with TIRE 0", "tell sort 2 0 0;plain 2 1 0;musk 2 1 0, as 0 1 = 99, as 1 2 = 101");
        Calls.due("8 KIN is not told", "tell sort 3 9 0;plain 3 1 0, as 0 1 = 108");
    }
}
