/** The perfumers' lane: told in texts, walked by a nose that tires, foretold, and told back from what was seen. */
public final class RoseLane {
    public static final int NONE = -1, UNKNOWN = -2, OUTSIDE = -3, NOT = -4, FULL = -5;

    private static final int SORTS = 4, MOST_SHOPS = 6, MOST_TIRED = 99, MOST_STRENGTH = 30, MOST_TIRE = 9;
    private static final int MOST_LETTERS = 160, MOST_LETTER = 255, MOST_CLAUSES = 14, NUMBERS_A_CLAUSE = 3;
    private static final int MOST_STEPS = 9999, MOST_IDLE = 20, MOST_COLD = 50;
    private static final int MOST_UNDONE = 8, KEEPS = 2, MOST_TELLS = 6, MOST_TOLD_VISITS = 9;
    private static final int MOST_WALKS = 720;
    private static final int FIRST_TIRE = 4, FIRST_REST = 1, FIRST_WANT = 10, FIRST_PURSE = 60;
    private static final int MUSK_TIRES = 2, COFFEE_RESTS = 10, NOTHING_SMELT = 3;

    private static final int LANE_WORD = 0, SORT_WORD = 1, PLAIN_WORD = 2, MUSK_WORD = 3, COFFEE_WORD = 4;
    private static final int NOTHING_WORD = 5, WANT_WORD = 6, PURSE_WORD = 7, SHUT_WORD = 8;

    /** By words: how many numbers stand behind each, and (three places a word) the bounds of these. */
    private static final int[] NUMBERS = {0, 3, 3, 3, 3, 3, 1, 1, 0};
    private static final int[] LEAST = {
        0, 0, 0,  0, 0, 0,  0, 1, 0,  0, 1, 0,  0, 1, 0,  0, 1, 0,  1, 0, 0,  0, 0, 0,  0, 0, 0};
    private static final int[] MOST = {
        0, 0, 0,  3, 9, 5,  3, 30, 50,  3, 30, 50,  3, 30, 50,  3, 30, 50,  30, 0, 0,  99, 0, 0,  0, 0, 0};

    private final Text text = new Text();
    private final Lane lane = new Lane();
    private final Nose nose = new Nose();
    private final Tells told = new Tells();

    private final Nose[] past = new Nose[MOST_UNDONE];
    private int pastEnd;
    private int undoable;
    private final Nose[] kept = new Nose[KEEPS];
    private final boolean[] isKept = new boolean[KEEPS];

    private final Nose scout = new Nose();
    private final Walks walks = new Walks();
    private final int[] byPlaces = new int[MOST_SHOPS];
    private final Coffee anyCoffee = new Coffee(0, 1, 0);
    private final int[] bestRow = new int[MOST_SHOPS];
    private int bestSteps;
    private int bestSmelt;

    public RoseLane() {
        for (int i = 0; i < MOST_UNDONE; i++) {
            past[i] = new Nose();
        }
        for (int k = 0; k < KEEPS; k++) {
            kept[k] = new Nose();
        }
        nose.purse = FIRST_PURSE;
    }

    // ---- what is told

    public int write(int letter) {
        if (!isWithin(letter, 0, MOST_LETTER)) {
            return OUTSIDE;
        }
        return text.add((char) letter) ? text.length : FULL;
    }

    public int erase() {
        int had = text.length;
        text.length = 0;
        return had;
    }

    public int fault() {
        return text.read(lane.shops);
    }

    public int lane() {
        if (text.read(lane.shops) != NONE) {
            return NOT;
        }
        for (int c = 0; c < text.clauses; c++) {
            lane.tell(text.words[c], text.numberOf(c, 0), text.numberOf(c, 1), text.numberOf(c, 2));
        }
        text.length = 0;
        nose.freshen(lane);
        nose.turned = false;
        told.size = 0;
        undoable = 0;
        for (int k = 0; k < KEEPS; k++) {
            isKept[k] = false;
        }
        return text.clauses;
    }

    public int sort(int sort, int what) {
        if (!isWithin(sort, 0, SORTS - 1)) {
            return UNKNOWN;
        }
        switch (what) {
            case 0: return lane.tire[sort];
            case 1: return lane.rest[sort];
            case 2: return nose.tired[sort];
            default: return OUTSIDE;
        }
    }

    public int shop(int shop, int what) {
        Shop asked = lane.shopOf(shop);
        if (asked == null) {
            return UNKNOWN;
        }
        switch (what) {
            case 0: return asked.kind();
            case 1: return asked.sort;
            case 2: return asked.strength;
            case 3: return asked.price;
            case 4: return nose.placeOf(lane, shop);
            case 5: return nose.bought >> shop & 1;
            case 6: return asked.smeltBy(nose.tired[asked.sort], nose.cold > 0);
            default: return OUTSIDE;
        }
    }

    public int as(int shop, int kind) {
        Shop asked = lane.shopOf(shop);
        if (asked == null) {
            return UNKNOWN;
        }
        if (!isWithin(kind, 0, 4)) {
            return OUTSIDE;
        }
        if (!isOfKind(asked, kind)) {
            return NOT;
        }
        int before = nose.tired[asked.sort];
        return held(before + asked.tiring(asked.sort, lane.tire[asked.sort])) - before + MOST_TIRED;
    }

    // ---- walks

    public int visit(int shop) {
        if (lane.shopOf(shop) == null) {
            return UNKNOWN;
        }
        if (nose.steps > MOST_STEPS) {
            return FULL;
        }
        remember();
        return nose.call(lane, shop);
    }

    public int idle(int n) {
        if (!isWithin(n, 1, MOST_IDLE)) {
            return OUTSIDE;
        }
        if (nose.steps > MOST_STEPS) {
            return FULL;
        }
        remember();
        nose.step(lane, n);
        return nose.steps;
    }

    public int wind() {
        if (lane.shops == 0) {
            return NOT;
        }
        remember();
        nose.turned = !nose.turned;
        nose.place = lane.shops - 1 - nose.place;
        return nose.place;
    }

    public int cold(int n) {
        if (!isWithin(n, 0, MOST_COLD)) {
            return OUTSIDE;
        }
        remember();
        int had = nose.cold;
        nose.cold = n;
        return had;
    }

    public int undo() {
        if (undoable == 0) {
            return NOT;
        }
        pastEnd = pastEnd == 0 ? MOST_UNDONE - 1 : pastEnd - 1;
        nose.copy(past[pastEnd]);
        undoable--;
        return undoable;
    }

    public int keep(int k) {
        if (!isWithin(k, 0, KEEPS - 1)) {
            return UNKNOWN;
        }
        kept[k].copy(nose);
        isKept[k] = true;
        return nose.steps;
    }

    public int back(int k) {
        if (!isWithin(k, 0, KEEPS - 1)) {
            return UNKNOWN;
        }
        if (!isKept[k]) {
            return NOT;
        }
        nose.copy(kept[k]);
        undoable = 0;
        return nose.steps;
    }

    // ---- foretold

    public int best(int set, int m, int what) {
        if (!isSet(set)) {
            return UNKNOWN;
        }
        if (!isWithin(m, 0, MOST_STRENGTH) || !isWithin(what, 0, 1 + MOST_SHOPS)) {
            return OUTSIDE;
        }
        if (!findBest(set, m)) {
            return NONE;
        }
        switch (what) {
            case 0: return bestSteps;
            case 1: return bestSmelt;
            default: return what - 2 < walks.size ? bestRow[what - 2] : NONE;
        }
    }

    public int through() {
        lineUp();
        return smeltThrough(NONE);
    }

    public int change() {
        lineUp();
        int most = smeltThrough(NONE);
        int pair = NONE;
        for (int a = 0; a < lane.shops; a++) {
            for (int b = a + 1; b < lane.shops; b++) {
                int smelt = smeltExchanged(a, b);
                if (smelt > most) {
                    most = smelt;
                    pair = 10 * a + b;
                }
            }
        }
        return pair;
    }

    public int coffeeAt(int what) {
        if (!isWithin(what, 0, 1)) {
            return OUTSIDE;
        }
        lineUp();
        int where = NONE;
        int most = NONE;
        for (int shop = 0; shop < lane.shops; shop++) {
            int smelt = smeltThrough(shop);
            if (smelt > most) {
                most = smelt;
                where = shop;
            }
        }
        return what == 0 ? where : most;
    }

    public int byLot(int shop, int m, int part) {
        if (lane.shopOf(shop) == null) {
            return UNKNOWN;
        }
        if (!isWithin(m, 0, MOST_STRENGTH) || !isWithin(part, 0, 1)) {
            return OUTSIDE;
        }
        int fit = 0;
        int all = 0;
        boolean more = walks.begin(lane, nose, allShops());
        while (more && all < MOST_WALKS) {
            if (walks.smeltAt(shop) >= m) {
                fit++;
            }
            all++;
            more = walks.next(lane);
        }
        int common = commonDivisor(all, fit);
        return common == 0 ? 0 : (part == 0 ? fit : all) / common;
    }

    // ---- what was seen

    public int orders(int set, int i) {
        if (!isSet(set)) {
            return UNKNOWN;
        }
        if (!isWithin(i, NONE, MOST_SHOPS - 1)) {
            return OUTSIDE;
        }
        scout.copy(nose);
        scout.freshen(lane);
        int fit = 0;
        int shopOfFirst = NONE;
        boolean more = walks.begin(lane, scout, allShops());
        for (int n = 0; more && n < MOST_WALKS; n++) {
            if (walks.end().bought == set) {
                if (fit == 0) {
                    shopOfFirst = walks.shopAt(i);
                }
                fit++;
            }
            more = walks.next(lane);
        }
        return i == NONE ? fit : shopOfFirst;
    }

    public int tells(int shop, int visits, int smelt) {
        if (lane.shopOf(shop) == null) {
            return UNKNOWN;
        }
        if (!isWithin(visits, 0, MOST_TOLD_VISITS) || !isWithin(smelt, 0, MOST_STRENGTH)) {
            return OUTSIDE;
        }
        return told.add(shop, visits, smelt) ? told.size : FULL;
    }

    public int forget() {
        int had = told.size;
        told.size = 0;
        return had;
    }

    public int smallest(int sort) {
        if (!isWithin(sort, 0, SORTS - 1)) {
            return UNKNOWN;
        }
        for (int tire = 0; tire <= MOST_TIRE; tire++) {
            if (told.fit(lane, sort, tire)) {
                return tire;
            }
        }
        return NONE;
    }

    public int count(int what) {
        switch (what) {
            case 0: return lane.shops;
            case 1: return lane.want;
            case 2: return nose.purse;
            case 3: return nose.place;
            case 4: return nose.steps;
            case 5: return nose.bought;
            case 6: return nose.cold;
            case 7: return nose.smelt;
            case 8: return told.size;
            case 9: return undoable;
            case 10: return text.length;
            default: return OUTSIDE;
        }
    }

    // ---- within

    private static boolean isWithin(int number, int least, int most) {
        return least <= number && number <= most;
    }

    private static int held(int tired) {
        return Math.max(0, Math.min(MOST_TIRED, tired));
    }

    private static boolean isOfKind(Shop shop, int kind) {
        switch (kind) {
            case 0: return true;
            case 1: return shop instanceof Plain;
            case 2: return shop instanceof Musk;
            case 3: return shop instanceof Coffee;
            case 4: return shop instanceof Nothing;
            default: return false;
        }
    }

    private static int commonDivisor(int a, int b) {
        int above = a;
        int below = b;
        for (int n = 0; n < MOST_WALKS && below != 0; n++) {
            int left = above % below;
            above = below;
            below = left;
        }
        return above;
    }

    private int allShops() {
        return (1 << lane.shops) - 1;
    }

    private boolean isSet(int set) {
        return isWithin(set, 0, allShops());
    }

    private void remember() {
        past[pastEnd].copy(nose);
        pastEnd = (pastEnd + 1) % MOST_UNDONE;
        undoable = Math.min(MOST_UNDONE, undoable + 1);
    }

    /** Walks come in the order of their numbers, so of equal ones the first is left standing. */
    private boolean findBest(int set, int m) {
        boolean found = false;
        boolean more = walks.begin(lane, nose, set);
        for (int n = 0; more && n < MOST_WALKS; n++) {
            int steps = walks.end().steps - nose.steps;
            int smelt = walks.end().smelt - nose.smelt;
            boolean better = !found || steps < bestSteps || steps == bestSteps && smelt > bestSmelt;
            if (better && walks.isEach(m)) {
                found = true;
                bestSteps = steps;
                bestSmelt = smelt;
                System.arraycopy(walks.row, 0, bestRow, 0, MOST_SHOPS);
            }
            more = walks.next(lane);
        }
        return found;
    }

    private void lineUp() {
        for (int shop = 0; shop < lane.shops; shop++) {
            byPlaces[nose.placeOf(lane, shop)] = shop;
        }
    }

    private int smeltExchanged(int a, int b) {
        int placeOfA = nose.placeOf(lane, a);
        int placeOfB = nose.placeOf(lane, b);
        byPlaces[placeOfA] = b;
        byPlaces[placeOfB] = a;
        int smelt = smeltThrough(NONE);
        byPlaces[placeOfA] = a;
        byPlaces[placeOfB] = b;
        return smelt;
    }

    /** What a fresh nose smells by places; the shop told as coffee is taken for one, and not counted. */
    private int smeltThrough(int coffee) {
        scout.freshen(lane);
        int smelt = 0;
        for (int place = 0; place < lane.shops; place++) {
            if (place > 0) {
                scout.step(lane, 1);
            }
            int shop = byPlaces[place];
            if (shop == coffee) {
                scout.smell(lane, anyCoffee);
            } else {
                smelt += scout.smell(lane, lane.shopOf(shop));
            }
        }
        return smelt;
    }

    /** What is told of the lane; all of it stays till a text tells it anew. */
    private static final class Lane {
        final int[] tire = new int[SORTS];
        final int[] rest = new int[SORTS];
        final Shop[] row = new Shop[MOST_SHOPS];
        int shops;
        int want;
        int purse;

        Lane() {
            setFirst();
        }

        void setFirst() {
            for (int sort = 0; sort < SORTS; sort++) {
                tire[sort] = FIRST_TIRE;
                rest[sort] = FIRST_REST;
            }
            shops = 0;
            want = FIRST_WANT;
            purse = FIRST_PURSE;
        }

        void tell(int word, int first, int second, int third) {
            switch (word) {
                case LANE_WORD: setFirst(); break;
                case SORT_WORD: setSort(first, second, third); break;
                case PLAIN_WORD: open(new Plain(first, second, third)); break;
                case MUSK_WORD: open(new Musk(first, second, third)); break;
                case COFFEE_WORD: open(new Coffee(first, second, third)); break;
                case NOTHING_WORD: open(new Nothing(first, second, third)); break;
                case WANT_WORD: want = first; break;
                case PURSE_WORD: purse = first; break;
                case SHUT_WORD: shops = 0; break;
                default: break;
            }
        }

        void setSort(int sort, int itsTire, int itsRest) {
            if (isWithin(sort, 0, SORTS - 1)) {
                tire[sort] = itsTire;
                rest[sort] = itsRest;
            }
        }

        void open(Shop shop) {
            if (shops < MOST_SHOPS) {
                row[shops] = shop;
                shops++;
            }
        }

        /** Null, if there is no such shop: row may still hold shops that were shut. */
        Shop shopOf(int shop) {
            return isWithin(shop, 0, shops - 1) ? row[shop] : null;
        }
    }

    /** A shop of any kind; the reader has seen to it that its numbers are in bounds. */
    private abstract static class Shop {
        final int sort;
        final int strength;
        final int price;

        Shop(int sort, int strength, int price) {
            this.sort = sort;
            this.strength = strength;
            this.price = price;
        }

        abstract int kind();

        /** By how much a visit would tire of a sort, were nothing held, with so much tire of the shop's own. */
        abstract int tiring(int ofSort, int tire);

        int smeltBy(int tired, boolean inCold) {
            int smelt = Math.max(0, strength - tired);
            return inCold ? smelt / 2 : smelt;
        }
    }

    private static class Plain extends Shop {
        Plain(int sort, int strength, int price) {
            super(sort, strength, price);
        }

        int kind() {
            return 0;
        }

        int tiring(int ofSort, int tire) {
            if (ofSort == sort) {
                return tire;
            }
            int kin = (sort + 1) % SORTS;
            return ofSort == kin ? tire / 2 : 0;
        }
    }

    private static final class Musk extends Plain {
        Musk(int sort, int strength, int price) {
            super(sort, strength, price);
        }

        int kind() {
            return 1;
        }

        int tiring(int ofSort, int tire) {
            return super.tiring(ofSort, tire) + MUSK_TIRES;
        }
    }

    private static final class Coffee extends Shop {
        Coffee(int sort, int strength, int price) {
            super(sort, strength, price);
        }

        int kind() {
            return 2;
        }

        int tiring(int ofSort, int tire) {
            return -COFFEE_RESTS;
        }
    }

    private static final class Nothing extends Shop {
        Nothing(int sort, int strength, int price) {
            super(sort, strength, price);
        }

        int kind() {
            return 3;
        }

        int tiring(int ofSort, int tire) {
            return 0;
        }

        int smeltBy(int tired, boolean inCold) {
            return NOTHING_SMELT;
        }
    }

    /** All that walks make other: what is kept, undone and foretold is a nose copied. */
    private static final class Nose {
        final int[] tired = new int[SORTS];
        int place;
        int steps;
        int cold;
        int purse;
        int bought;
        int smelt;
        /** Only wind moves shops, so one sign holds the places of all. */
        boolean turned;

        void copy(Nose other) {
            System.arraycopy(other.tired, 0, tired, 0, SORTS);
            place = other.place;
            steps = other.steps;
            cold = other.cold;
            purse = other.purse;
            bought = other.bought;
            smelt = other.smelt;
            turned = other.turned;
        }

        /** As behind a text, but that shops stay where they are. */
        void freshen(Lane lane) {
            for (int sort = 0; sort < SORTS; sort++) {
                tired[sort] = 0;
            }
            place = 0;
            steps = 0;
            cold = 0;
            purse = lane.purse;
            bought = 0;
            smelt = 0;
        }

        int placeOf(Lane lane, int shop) {
            return turned ? lane.shops - 1 - shop : shop;
        }

        void step(Lane lane, int n) {
            for (int sort = 0; sort < SORTS; sort++) {
                tired[sort] = held(tired[sort] - n * lane.rest[sort]);
            }
            cold = Math.max(0, cold - n);
            steps += n;
        }

        /** What a visit does on the spot, but for buying. */
        int smell(Lane lane, Shop shop) {
            if (shop == null) {
                return 0;
            }
            int much = shop.smeltBy(tired[shop.sort], cold > 0);
            int tire = lane.tire[shop.sort];
            for (int sort = 0; sort < SORTS; sort++) {
                tired[sort] = held(tired[sort] + shop.tiring(sort, tire));
            }
            smelt += much;
            return much;
        }

        int call(Lane lane, int number) {
            Shop shop = lane.shopOf(number);
            if (shop == null) {
                return 0;
            }
            int there = placeOf(lane, number);
            step(lane, Math.abs(there - place));
            place = there;
            int much = smell(lane, shop);
            boolean isBought = (bought >> number & 1) == 1;
            if (much >= lane.want && !isBought && shop.price <= purse) {
                bought |= 1 << number;
                purse -= shop.price;
            }
            return much;
        }
    }

    /** All walks of a set, one after another by numbers; one and the next share the noses of their common start. */
    private static final class Walks {
        final int[] row = new int[MOST_SHOPS];
        final int[] smelt = new int[MOST_SHOPS];
        final Nose[] noses = new Nose[MOST_SHOPS + 1];
        int size;

        Walks() {
            for (int i = 0; i <= MOST_SHOPS; i++) {
                noses[i] = new Nose();
            }
        }

        /** Goes the first walk: there is always one. */
        boolean begin(Lane lane, Nose start, int set) {
            size = 0;
            for (int shop = 0; shop < MOST_SHOPS; shop++) {
                if ((set >> shop & 1) == 1) {
                    row[size] = shop;
                    size++;
                }
            }
            noses[0].copy(start);
            goFrom(lane, 0);
            return true;
        }

        boolean next(Lane lane) {
            int pivot = size - 2;
            while (pivot >= 0 && row[pivot] > row[pivot + 1]) {
                pivot--;
            }
            if (pivot < 0) {
                return false;
            }
            int other = size - 1;
            while (other > pivot + 1 && row[other] < row[pivot]) {
                other--;
            }
            exchange(pivot, other);
            for (int low = pivot + 1, high = size - 1; low < high; low++, high--) {
                exchange(low, high);
            }
            goFrom(lane, pivot);
            return true;
        }

        void exchange(int i, int j) {
            int shop = row[i];
            row[i] = row[j];
            row[j] = shop;
        }

        void goFrom(Lane lane, int first) {
            for (int i = first; i < size; i++) {
                noses[i + 1].copy(noses[i]);
                smelt[i] = noses[i + 1].call(lane, row[i]);
            }
        }

        Nose end() {
            return noses[size];
        }

        boolean isEach(int least) {
            for (int i = 0; i < size; i++) {
                if (smelt[i] < least) {
                    return false;
                }
            }
            return true;
        }

        int shopAt(int i) {
            return isWithin(i, 0, size - 1) ? row[i] : NONE;
        }

        int smeltAt(int shop) {
            for (int i = 0; i < size; i++) {
                if (row[i] == shop) {
                    return smelt[i];
                }
            }
            return NONE;
        }
    }

    /** What a nose told of shops smelt again and again. */
    private static final class Tells {
        final int[] shops = new int[MOST_TELLS];
        final int[] visits = new int[MOST_TELLS];
        final int[] smelt = new int[MOST_TELLS];
        int size;

        boolean add(int shop, int itsVisits, int itsSmelt) {
            if (size >= MOST_TELLS) {
                return false;
            }
            shops[size] = shop;
            visits[size] = itsVisits;
            smelt[size] = itsSmelt;
            size++;
            return true;
        }

        boolean fit(Lane lane, int sort, int tire) {
            for (int i = 0; i < size; i++) {
                Shop shop = lane.shopOf(shops[i]);
                if (shop != null && shop.sort == sort && smeltBehind(shop, visits[i], tire) != smelt[i]) {
                    return false;
                }
            }
            return true;
        }

        /** Kin is never the sort itself, so only what tires of the shop's own sort tells here. */
        static int smeltBehind(Shop shop, int visits, int tire) {
            int tired = 0;
            for (int n = 0; n < visits; n++) {
                tired = held(tired + shop.tiring(shop.sort, tire));
            }
            return shop.smeltBy(tired, false);
        }
    }

    /** The text and its reader: clauses are read whole ahead of any that is done. */
    private static final class Text {
        final char[] letters = new char[MOST_LETTERS];
        int length;
        final int[] words = new int[MOST_CLAUSES];
        final int[] numbers = new int[MOST_CLAUSES * NUMBERS_A_CLAUSE];
        int clauses;
        /** Where the token being read begins, and the place behind it. */
        int from;
        int to;
        int shops;

        boolean add(char letter) {
            if (length >= MOST_LETTERS) {
                return false;
            }
            letters[length] = letter;
            length++;
            return true;
        }

        int numberOf(int clause, int i) {
            return numbers[clause * NUMBERS_A_CLAUSE + i];
        }

        /** The place of the fault, or NONE; shops of earlier texts count for the seventh. */
        int read(int shopsAhead) {
            shops = shopsAhead;
            clauses = 0;
            to = 0;
            for (int clause = 0; clause < MOST_CLAUSES; clause++) {
                if (!isClause(clause)) {
                    return from;
                }
                clauses++;
                nextToken();
                if (from >= length) {
                    return NONE;
                }
                if (letters[from] != ';') {
                    return from;
                }
            }
            return from;
        }

        boolean isClause(int clause) {
            nextToken();
            int word = wordHere();
            if (word == NONE || !hasRoom(word)) {
                return false;
            }
            words[clause] = word;
            for (int i = 0; i < NUMBERS[word]; i++) {
                nextToken();
                int number = numberHere();
                int bounds = word * NUMBERS_A_CLAUSE + i;
                if (!isWithin(number, LEAST[bounds], MOST[bounds])) {
                    return false;
                }
                numbers[clause * NUMBERS_A_CLAUSE + i] = number;
            }
            return true;
        }

        /** Counts shops as the clause will when it is done. */
        boolean hasRoom(int word) {
            if (word == LANE_WORD || word == SHUT_WORD) {
                shops = 0;
            }
            if (isWithin(word, PLAIN_WORD, NOTHING_WORD)) {
                shops++;
            }
            return shops <= MOST_SHOPS;
        }

        void nextToken() {
            from = to;
            while (from < length && letters[from] == ' ') {
                from++;
            }
            to = from;
            if (from >= length) {
                return;
            }
            char first = letters[from];
            to++;
            while (to < length && isOneRow(first, letters[to])) {
                to++;
            }
        }

        static boolean isOneRow(char first, char next) {
            return isSmall(first) && isSmall(next) || isDigit(first) && isDigit(next);
        }

        static boolean isSmall(char letter) {
            return 'a' <= letter && letter <= 'z';
        }

        static boolean isDigit(char letter) {
            return '0' <= letter && letter <= '9';
        }

        int wordHere() {
            if (says("lane")) return LANE_WORD;
            if (says("sort")) return SORT_WORD;
            if (says("plain")) return PLAIN_WORD;
            if (says("musk")) return MUSK_WORD;
            if (says("coffee")) return COFFEE_WORD;
            if (says("nothing")) return NOTHING_WORD;
            if (says("want")) return WANT_WORD;
            if (says("purse")) return PURSE_WORD;
            if (says("shut")) return SHUT_WORD;
            return NONE;
        }

        boolean says(String word) {
            if (to - from != word.length()) {
                return false;
            }
            for (int i = 0; i < word.length(); i++) {
                if (letters[from + i] != word.charAt(i)) {
                    return false;
                }
            }
            return true;
        }

        /** NONE, below all bounds, if it is no number of one or two digits. */
        int numberHere() {
            if (!isWithin(to - from, 1, 2)) {
                return NONE;
            }
            int number = 0;
            for (int i = from; i < to; i++) {
                if (!isDigit(letters[i])) {
                    return NONE;
                }
                number = 10 * number + letters[i] - '0';
            }
            return number;
        }
    }
}
