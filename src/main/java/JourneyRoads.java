/** The roads of a journeyman: the document's numbered promises stand behind the public methods. */
public final class JourneyRoads {
    public static final int NONE = -1, UNKNOWN = -1000000001, OUTSIDE = -1000000002, NOT = -1000000003, FULL = -1000000004;

    private static final int MAX_LETTERS = 240, MAX_LETTER = 255;
    private static final int MAX_TOWNS = 8, MAX_ROADS = 12, ALL_TOWNS = 255;
    private static final int MAX_STAY = 4, STAYS = MAX_STAY + 1;
    private static final int YEAR = 12, ALL_MONTHS = 4095;
    private static final int MAX_MILES = 999, MAX_GAIN = 20, BANNED_MILES = 50;
    private static final int MAX_MONTHS = 9000, HOME_MONTHS = 36, MAX_DRIFT = 40;
    private static final int MAX_BEST = 36, MAX_SEALS = 60, MAX_TWO = 24, WAY_MONTHS = 48;
    private static final int MAX_TOLD = 8, MAX_BOOK = 15, MAX_LEARNT = 9999, MAX_UNDO = 20, IMAGES = 2;
    private static final int MAX_PASSES = 60, HUNDRED = 100, BILLION = 1000000000;

    private final Text text = new Text();
    private final Journey journey = new Journey();
    private final Past past = new Past();
    private final Plan plan = new Plan();
    private final SealSearch search = new SealSearch();
    private final Ways ways = new Ways();
    private final Journey[] images = new Journey[IMAGES];
    private final int[] imageSeeds = new int[IMAGES];
    private final boolean[] imageKept = new boolean[IMAGES];
    private final int[] book = new int[MAX_BOOK];
    private final int[] exits = new int[MAX_TOWNS];
    private Country country = new Country();
    // A text with a fault must leave THE LAND as it was, so it is read into a second one.
    private Country draft = new Country();
    private int entries;
    private int drawn;

    public JourneyRoads() {
        for (int i = 0; i < IMAGES; i++) {
            images[i] = new Journey();
        }
    }

    // ---- the land

    public int feed(int letter) {
        if (letter < 0 || letter > MAX_LETTER) {
            return OUTSIDE;
        }
        if (text.length >= MAX_LETTERS) {
            return FULL;
        }
        text.letters[text.length] = (char) letter;
        text.length++;
        return text.length;
    }

    public int land() {
        text.readInto(draft);
        if (text.fault != 0) {
            return -10 - text.fault;
        }
        Country read = draft;
        draft = country;
        country = read;
        journey.clear();
        past.count = 0;
        ways.count = 0;
        entries = 0;
        for (int i = 0; i < IMAGES; i++) {
            imageKept[i] = false;
        }
        return country.towns;
    }

    public int fault() {
        return text.faultAt;
    }

    public int told(int what) {
        switch (what) {
            case 0: return country.stayLimit;
            case 1: return country.firstMonth;
            case 2: return country.towns;
            case 3: return country.roads;
            case 4: return text.length;
            case 5: return journey.months;
            case 6: return journey.here;
            case 7: return journey.stayed;
            case 8: return journey.learnt;
            case 9: return journey.sealed;
            case 10: return journey.shut;
            case 11: return journey.isHome ? 1 : 0;
            case 12: return ways.count;
            case 13: return entries;
            case 14: return past.count;
            default: return OUTSIDE;
        }
    }

    public int town(int t, int what) {
        if (!country.hasTown(t)) {
            return UNKNOWN;
        }
        switch (what) {
            case 0: return country.miles[t];
            case 1: return country.work[t];
            case 2: return country.gain[t];
            case 3: return country.neighbours(t, 0);
            case 4: return country.isBanned(t) ? 1 : 0;
            default: return OUTSIDE;
        }
    }

    public int road(int r, int what) {
        if (!country.hasRoad(r)) {
            return UNKNOWN;
        }
        switch (what) {
            case 0: return country.roadA[r];
            case 1: return country.roadB[r];
            case 2: return journey.shut >> r & 1;
            default: return OUTSIDE;
        }
    }

    // ---- what is done

    public int stay() {
        if (cannotGoOn() || !journey.mayStay(country)) {
            return NOT;
        }
        if (journey.months > MAX_MONTHS) {
            return FULL;
        }
        past.push(journey);
        return journey.stayMonth(country);
    }

    public int walk(int t) {
        if (!country.hasTown(t)) {
            return UNKNOWN;
        }
        if (journey.isHome || (journey.walks(country) >> t & 1) == 0) {
            return NOT;
        }
        if (journey.months > MAX_MONTHS) {
            return FULL;
        }
        past.push(journey);
        journey.walkMonth(t);
        return journey.months;
    }

    public int war(int r, boolean is) {
        if (!country.hasRoad(r)) {
            return UNKNOWN;
        }
        int before = journey.shut >> r & 1;
        past.push(journey);
        journey.shut = is ? journey.shut | 1 << r : journey.shut & ~(1 << r);
        return before;
    }

    public int home() {
        if (cannotGoOn() || journey.months < HOME_MONTHS) {
            return NOT;
        }
        past.push(journey);
        journey.isHome = true;
        return journey.learnt;
    }

    public int drift(int n) {
        if (n < 1 || n > MAX_DRIFT) {
            return OUTSIDE;
        }
        if (cannotGoOn()) {
            return NOT;
        }
        if (journey.months > MAX_MONTHS) {
            return FULL;
        }
        past.push(journey);
        for (int i = 0; i < n; i++) {
            driftMonth();
        }
        return journey.learnt;
    }

    public int undo() {
        if (past.count == 0) {
            return NOT;
        }
        past.pop(journey);
        return past.count;
    }

    // ---- tried

    public int may(int what) {
        if (what != 0 && what != 1) {
            return OUTSIDE;
        }
        if (cannotGoOn()) {
            return NOT;
        }
        if (what == 0) {
            return journey.walks(country);
        }
        return journey.mayStay(country) ? 1 : 0;
    }

    public int reach(int t) {
        if (!country.hasTown(t)) {
            return UNKNOWN;
        }
        if (journey.isHome) {
            return NOT;
        }
        country.fillExits(exits, journey.shut);
        int seen = 1 << journey.here;
        // A shortest way enters no town twice, so it has fewer months than there are towns.
        for (int months = 0; months < country.towns; months++) {
            if ((seen >> t & 1) != 0) {
                return months;
            }
            seen |= exitsOf(seen, exits);
        }
        return NONE;
    }

    public int best(int n, int i) {
        if (n < 1 || n > MAX_BEST || i < NONE || i >= n) {
            return OUTSIDE;
        }
        if (cannotGoOn()) {
            return NOT;
        }
        country.fillExits(exits, journey.shut);
        plan.fill(country, exits, journey.months, n);
        int most = plan.mostFrom(0, journey.here, journey.stayed);
        if (i == NONE || most == NONE) {
            return most;
        }
        return plan.townBehind(country, exits, journey, i);
    }

    public int seals(int set) {
        if ((set & ~country.allTowns()) != 0) {
            return UNKNOWN;
        }
        if (cannotGoOn()) {
            return NOT;
        }
        country.fillExits(exits, journey.shut);
        return search.fewestMonths(country, exits, journey, set);
    }

    public int two(int t) {
        if (!country.hasTown(t)) {
            return UNKNOWN;
        }
        if (journey.isHome) {
            return NOT;
        }
        country.fillExits(exits, journey.shut);
        return plan.monthsToMeet(country, exits, journey, t);
    }

    public int idle() {
        int busy = 0;
        for (int t = 0; t < country.towns; t++) {
            if (!country.isBanned(t)) {
                busy |= country.work[t];
            }
        }
        return ALL_MONTHS & ~busy;
    }

    public int stranded() {
        country.fillExits(exits, journey.shut);
        int set = 0;
        for (int t = 0; t < country.towns; t++) {
            if (exits[t] == 0) {
                set |= 1 << t;
            }
        }
        return set;
    }

    public int snow(int n, int q) {
        if (n < 0 || n > MAX_PASSES || q < 0 || q > HUNDRED) {
            return OUTSIDE;
        }
        long odds = BILLION;
        for (int i = 0; i < n; i++) {
            odds = odds * (HUNDRED - q) / HUNDRED;
        }
        return (int) odds;
    }

    // ---- seals that are told

    public int seal(int t, int month) {
        if (!country.hasTown(t)) {
            return UNKNOWN;
        }
        if (month < 0 || month >= WAY_MONTHS) {
            return OUTSIDE;
        }
        if (ways.count >= MAX_TOLD) {
            return FULL;
        }
        ways.add(t, month);
        return ways.count;
    }

    public int fits() {
        return ways.someWay(country, NONE) ? 1 : 0;
    }

    public int bought() {
        return ways.boughtSeals(country);
    }

    public int was(int month) {
        if (month < 0 || month > WAY_MONTHS) {
            return OUTSIDE;
        }
        ways.sweepBoth(country);
        return ways.townsAt(month);
    }

    public int ask() {
        ways.sweepBoth(country);
        return ways.widestMonth();
    }

    public int write(int learnt) {
        if (learnt < 0 || learnt > MAX_LEARNT) {
            return OUTSIDE;
        }
        if (entries >= MAX_BOOK) {
            return FULL;
        }
        book[entries] = learnt;
        entries++;
        return entries;
    }

    public int tear() {
        int had = ways.count + entries;
        ways.count = 0;
        entries = 0;
        return had;
    }

    public int judge() {
        for (int i = 0; i < entries && i < MAX_BOOK; i++) {
            if (book[i] != journey.learnt) {
                return i;
            }
        }
        return NONE;
    }

    // ---- draws, images

    public int seed(int v) {
        if (v < 0) {
            return OUTSIDE;
        }
        int before = drawn;
        drawn = v;
        return before;
    }

    public int keep(int i) {
        if (i < 0 || i >= IMAGES) {
            return UNKNOWN;
        }
        images[i].copy(journey);
        imageSeeds[i] = drawn;
        imageKept[i] = true;
        past.count = 0;
        return 1;
    }

    public int goBack(int i) {
        if (i < 0 || i >= IMAGES) {
            return UNKNOWN;
        }
        if (!imageKept[i]) {
            return NOT;
        }
        journey.copy(images[i]);
        drawn = imageSeeds[i];
        past.count = 0;
        return 1;
    }

    private boolean cannotGoOn() {
        return country.towns == 0 || journey.isHome;
    }

    private int draw(int n) {
        drawn = (int) ((drawn * 1103515245L + 12345L) & 0x7fffffffL);
        return n > 0 ? drawn / 65536 % n : 0;
    }

    private void driftMonth() {
        if (draw(4) == 0 && country.roads > 0) {
            journey.shut ^= 1 << draw(country.roads);
        }
        if (draw(2) == 0 && journey.mayStay(country)) {
            journey.stayMonth(country);
            return;
        }
        int walks = journey.walks(country);
        for (int t = 0; t < country.towns; t++) {
            if ((walks >> t & 1) != 0) {
                journey.walkMonth(t);
                return;
            }
        }
    }

    /** The TOWNS to which a month's WALK leads from any of a SET. */
    private static int exitsOf(int set, int[] exits) {
        int reached = 0;
        for (int t = 0; t < exits.length; t++) {
            if ((set >> t & 1) != 0) {
                reached |= exits[t];
            }
        }
        return reached;
    }

    /** THE LAND. A stayLimit of 0 says that no 'l' was told. */
    private static final class Country {
        int stayLimit;
        int firstMonth;
        int towns;
        int roads;
        private int banned;
        final int[] miles = new int[MAX_TOWNS];
        final int[] work = new int[MAX_TOWNS];
        final int[] gain = new int[MAX_TOWNS];
        final int[] roadA = new int[MAX_ROADS];
        final int[] roadB = new int[MAX_ROADS];

        void clear() {
            stayLimit = 0;
            firstMonth = 0;
            towns = 0;
            roads = 0;
            banned = 0;
        }

        void addTown(int mile, int months, int learns) {
            if (towns < MAX_TOWNS) {
                miles[towns] = mile;
                work[towns] = months;
                gain[towns] = learns;
                banned |= mile < BANNED_MILES ? 1 << towns : 0;
                towns++;
            }
        }

        void addRoad(int a, int b) {
            if (roads < MAX_ROADS) {
                roadA[roads] = a;
                roadB[roads] = b;
                roads++;
            }
        }

        boolean hasTown(int t) {
            return t >= 0 && t < towns;
        }

        boolean hasRoad(int r) {
            return r >= 0 && r < roads;
        }

        int allTowns() {
            return (1 << towns) - 1;
        }

        boolean isBanned(int t) {
            return (banned >> t & 1) != 0;
        }

        boolean worksIn(int t, int month) {
            return hasTown(t) && (work[t] >> (firstMonth + month) % YEAR & 1) != 0;
        }

        int gainIn(int t, int month) {
            return worksIn(t, month) ? gain[t] : 0;
        }

        int neighbours(int t, int shut) {
            int set = 0;
            for (int r = 0; r < roads; r++) {
                if ((shut >> r & 1) != 0) {
                    continue;
                }
                if (roadA[r] == t) {
                    set |= 1 << roadB[r];
                } else if (roadB[r] == t) {
                    set |= 1 << roadA[r];
                }
            }
            return set;
        }

        /** The TOWNS to which one may WALK from a TOWN. */
        int walksFrom(int t, int shut) {
            return neighbours(t, shut) & ~banned;
        }

        void fillExits(int[] exits, int shut) {
            for (int t = 0; t < exits.length; t++) {
                exits[t] = t < towns ? walksFrom(t, shut) : 0;
            }
        }
    }

    /** THE TEXT, and its reading up to the first FAULT. */
    private static final class Text {
        final char[] letters = new char[MAX_LETTERS];
        int length;
        int fault;
        int faultAt = NONE;
        private int at;
        private int numberAt;

        /** Reads THE TEXT, which is empty then. */
        void readInto(Country read) {
            read.clear();
            at = 0;
            fault = 0;
            faultAt = NONE;
            for (int i = 0; i < MAX_LETTERS && fault == 0 && skipBlanks(); i++) {
                readClause(read);
            }
            length = 0;
        }

        private void readClause(Country read) {
            char word = letters[at];
            int wordFault = faultOfWord(read, word);
            if (wordFault != 0) {
                blame(wordFault, at);
                return;
            }
            at++;
            if (word == 'l') {
                readLimits(read);
            } else if (word == 't') {
                readTown(read);
            } else {
                readRoad(read);
            }
        }

        private int faultOfWord(Country read, char word) {
            boolean isFirst = read.stayLimit == 0;
            if (word == 'l') {
                return isFirst ? 0 : 3;
            }
            if (isFirst) {
                return 1;
            }
            if (word == 't') {
                return read.towns < MAX_TOWNS ? 0 : 3;
            }
            if (word == 'r') {
                return read.roads < MAX_ROADS ? 0 : 3;
            }
            return 1;
        }

        private void readLimits(Country read) {
            int limit = readNumber(1, MAX_STAY);
            int month = readNumber(0, YEAR - 1);
            readEnd();
            read.stayLimit = limit;
            read.firstMonth = month;
        }

        private void readTown(Country read) {
            int mile = readNumber(0, MAX_MILES);
            int months = readNumber(0, ALL_MONTHS);
            int learns = readNumber(0, MAX_GAIN);
            readEnd();
            read.addTown(mile, months, learns);
        }

        private void readRoad(Country read) {
            int a = readNumber(0, read.towns - 1);
            int b = readNumber(0, read.towns - 1);
            if (a == b || (read.neighbours(a, 0) >> b & 1) != 0) {
                blame(4, numberAt);
            }
            readEnd();
            read.addRoad(a, b);
        }

        /** The next NUMBER; behind a FAULT any number will do, as the reading is thrown away. */
        private int readNumber(int low, int high) {
            if (fault != 0) {
                return low;
            }
            if (!skipBlanks() || !isFigure(letters[at])) {
                blame(1, at);
                return low;
            }
            numberAt = at;
            int value = 0;
            for (; at < length && isFigure(letters[at]); at++) {
                if (at - numberAt < 4) {
                    value = value * 10 + letters[at] - '0';
                }
            }
            if (at - numberAt > 4 || value < low || value > high) {
                blame(2, numberAt);
                return low;
            }
            return value;
        }

        private void readEnd() {
            if (fault != 0) {
                return;
            }
            if (!skipBlanks() || letters[at] != ';') {
                blame(1, at);
                return;
            }
            at++;
        }

        /** Whether there is a letter behind the blanks. */
        private boolean skipBlanks() {
            while (at < length && letters[at] == ' ') {
                at++;
            }
            return at < length;
        }

        private static boolean isFigure(char letter) {
            return letter >= '0' && letter <= '9';
        }

        private void blame(int number, int where) {
            if (fault == 0) {
                fault = number;
                faultAt = where;
            }
        }
    }

    /** All of section 2: what is done, undone and kept in IMAGES. */
    private static final class Journey {
        int here;
        int months;
        int stayed;
        int learnt;
        int sealed;
        int shut;
        boolean isHome;

        void clear() {
            here = 0;
            months = 0;
            stayed = 0;
            learnt = 0;
            sealed = 0;
            shut = 0;
            isHome = false;
        }

        void copy(Journey other) {
            here = other.here;
            months = other.months;
            stayed = other.stayed;
            learnt = other.learnt;
            sealed = other.sealed;
            shut = other.shut;
            isHome = other.isHome;
        }

        boolean mayStay(Country country) {
            return stayed < country.stayLimit;
        }

        int walks(Country country) {
            return country.walksFrom(here, shut);
        }

        int stayMonth(Country country) {
            int learns = country.gainIn(here, months);
            if (country.worksIn(here, months)) {
                sealed |= 1 << here;
            }
            learnt += learns;
            stayed++;
            months++;
            return learns;
        }

        void walkMonth(int t) {
            here = t;
            stayed = 0;
            months++;
        }
    }

    /** What can be UNDONE, the oldest first. */
    private static final class Past {
        final Journey[] kept = new Journey[MAX_UNDO];
        int count;

        Past() {
            for (int i = 0; i < MAX_UNDO; i++) {
                kept[i] = new Journey();
            }
        }

        void push(Journey journey) {
            if (count >= MAX_UNDO) {
                loseOldest();
            }
            kept[count].copy(journey);
            count++;
        }

        void pop(Journey journey) {
            if (count > 0) {
                count--;
                journey.copy(kept[count]);
            }
        }

        private void loseOldest() {
            Journey oldest = kept[0];
            for (int i = 1; i < MAX_UNDO; i++) {
                kept[i - 1] = kept[i];
            }
            kept[MAX_UNDO - 1] = oldest;
            count = MAX_UNDO - 1;
        }
    }

    /** BEST, from the last month back, and TWO on one road. */
    private static final class Plan {
        private static final int ROW = MAX_TOWNS * STAYS;
        // Row k: the most that is LEARNT from the k-th month on, by TOWN and months STAYED; NONE: he cannot go on.
        private final int[] most = new int[(MAX_BEST + 1) * ROW];
        private final int[] mine = new int[STAYS];
        private final int[] others = new int[STAYS];

        void fill(Country country, int[] exits, int firstMonth, int n) {
            for (int i = 0; i < ROW; i++) {
                most[n * ROW + i] = 0;
            }
            for (int k = n - 1; k >= 0; k--) {
                for (int t = 0; t < country.towns; t++) {
                    fillTown(country, exits[t], firstMonth, k, t);
                }
            }
        }

        private void fillTown(Country country, int exit, int firstMonth, int k, int t) {
            int walked = NONE;
            for (int u = 0; u < country.towns; u++) {
                if ((exit >> u & 1) != 0) {
                    walked = Math.max(walked, mostFrom(k + 1, u, 0));
                }
            }
            int learns = country.gainIn(t, firstMonth + k);
            for (int s = 0; s <= country.stayLimit; s++) {
                int later = s < country.stayLimit ? mostFrom(k + 1, t, s + 1) : NONE;
                int stayed = later == NONE ? NONE : later + learns;
                most[k * ROW + t * STAYS + s] = Math.max(walked, stayed);
            }
        }

        int mostFrom(int k, int t, int s) {
            int at = k * ROW + t * STAYS + s;
            return at >= 0 && at < most.length ? most[at] : NONE;
        }

        /** The TOWN behind the i-th month of the first of the best ways; there must be one. */
        int townBehind(Country country, int[] exits, Journey journey, int i) {
            int t = journey.here;
            int s = journey.stayed;
            for (int k = 0; k <= i; k++) {
                if (staysFirst(country, journey.months, k, t, s)) {
                    s++;
                } else {
                    t = walksFirst(country, exitsOf(1 << t, exits), k, mostFrom(k, t, s), t);
                    s = 0;
                }
            }
            return t;
        }

        private boolean staysFirst(Country country, int firstMonth, int k, int t, int s) {
            if (s >= country.stayLimit) {
                return false;
            }
            int later = mostFrom(k + 1, t, s + 1);
            return later != NONE && later + country.gainIn(t, firstMonth + k) == mostFrom(k, t, s);
        }

        private int walksFirst(Country country, int exit, int k, int wanted, int otherwise) {
            for (int u = 0; u < country.towns; u++) {
                if ((exit >> u & 1) != 0 && mostFrom(k + 1, u, 0) == wanted) {
                    return u;
                }
            }
            return otherwise;
        }

        int monthsToMeet(Country country, int[] exits, Journey journey, int t) {
            for (int s = 0; s < STAYS; s++) {
                mine[s] = s == journey.stayed ? 1 << journey.here : 0;
                others[s] = s == 0 ? 1 << t : 0;
            }
            for (int months = 0; months <= MAX_TWO; months++) {
                if ((union(mine) & union(others)) != 0) {
                    return months;
                }
                spendMonth(mine, exits, country.stayLimit);
                spendMonth(others, exits, country.stayLimit);
            }
            return NONE;
        }

        /** A row holds, by months STAYED, the TOWNS in which one can be. */
        private static void spendMonth(int[] row, int[] exits, int stayLimit) {
            int walked = exitsOf(union(row), exits);
            for (int s = STAYS - 1; s > 0; s--) {
                row[s] = s <= stayLimit ? row[s - 1] : 0;
            }
            row[0] = walked;
        }

        private static int union(int[] row) {
            int set = 0;
            for (int s = 0; s < row.length; s++) {
                set |= row[s];
            }
            return set;
        }
    }

    /**
     * SEALS: month by month, for each TOWN and months STAYED, all SETS of SEALS that he can have,
     * one bit for each of the 256 SETS, so that a month is moved by a few words at once.
     */
    private static final class SealSearch {
        private static final int WORDS = 4, WORD_TOWNS = 6;
        private static final int CELLS = MAX_TOWNS * STAYS * WORDS;
        // For each of the first six TOWNS the SETS of a word that are without it.
        private static final long[] WITHOUT = {
            0x5555555555555555L, 0x3333333333333333L, 0x0f0f0f0f0f0f0f0fL,
            0x00ff00ff00ff00ffL, 0x0000ffff0000ffffL, 0x00000000ffffffffL
        };
        private long[] now = new long[CELLS];
        private long[] next = new long[CELLS];

        int fewestMonths(Country country, int[] exits, Journey journey, int set) {
            clear(now);
            // SEALS that are not asked for are left out, so the aim is one SET alone.
            int had = journey.sealed & set;
            int first = cell(journey.here, journey.stayed) + (had >> 6);
            if (first < 0 || first >= CELLS) {
                return NONE;
            }
            now[first] = 1L << (had & 63);
            for (int months = 0; months <= MAX_SEALS; months++) {
                if (holds(country, set)) {
                    return months;
                }
                spendMonth(country, exits, journey.months + months, set);
            }
            return NONE;
        }

        private static void clear(long[] cells) {
            for (int i = 0; i < cells.length; i++) {
                cells[i] = 0;
            }
        }

        private static int cell(int t, int s) {
            return (t * STAYS + s) * WORDS;
        }

        private boolean holds(Country country, int set) {
            for (int t = 0; t < country.towns; t++) {
                for (int s = 0; s <= country.stayLimit; s++) {
                    if ((now[cell(t, s) + (set >> 6)] >>> (set & 63) & 1) != 0) {
                        return true;
                    }
                }
            }
            return false;
        }

        private void spendMonth(Country country, int[] exits, int month, int set) {
            clear(next);
            for (int t = 0; t < country.towns; t++) {
                boolean seals = (set >> t & 1) != 0 && country.worksIn(t, month);
                for (int s = 0; s <= country.stayLimit; s++) {
                    if (isEmpty(cell(t, s))) {
                        continue;
                    }
                    walkAll(country, cell(t, s), exits[t]);
                    if (s < country.stayLimit) {
                        moveAll(cell(t, s), cell(t, s + 1), seals ? t : NONE);
                    }
                }
            }
            long[] spent = now;
            now = next;
            next = spent;
        }

        private boolean isEmpty(int from) {
            long all = 0;
            for (int w = 0; w < WORDS; w++) {
                all |= now[from + w];
            }
            return all == 0;
        }

        private void walkAll(Country country, int from, int exit) {
            for (int u = 0; u < country.towns; u++) {
                if ((exit >> u & 1) != 0) {
                    moveAll(from, cell(u, 0), NONE);
                }
            }
        }

        /** Moves all SETS of a cell to another; a SEAL that is not NONE is put into each. */
        private void moveAll(int from, int to, int seal) {
            for (int w = 0; w < WORDS; w++) {
                long sets = now[from + w];
                if (seal == NONE) {
                    next[to + w] |= sets;
                } else if (seal < WORD_TOWNS) {
                    long without = sets & WITHOUT[seal];
                    next[to + w] |= (sets ^ without) | (without << (1 << seal));
                } else {
                    next[to + (w | 1 << (seal - WORD_TOWNS))] |= sets;
                }
            }
        }
    }

    /** TOLD SEALS, and the WAYS that fit them. */
    private static final class Ways {
        int count;
        private final int[] sealTown = new int[MAX_TOLD];
        private final int[] sealMonth = new int[MAX_TOLD];
        private final int[] exits = new int[MAX_TOWNS];
        // Rows by month, in each by months STAYED the TOWNS: whither the past leads, whence it can go on to the end.
        private final int[] ahead = new int[(WAY_MONTHS + 1) * STAYS];
        private final int[] behind = new int[(WAY_MONTHS + 1) * STAYS];

        void add(int t, int month) {
            if (count < MAX_TOLD) {
                sealTown[count] = t;
                sealMonth[count] = month;
                count++;
            }
        }

        boolean someWay(Country country, int leftOut) {
            sweepAhead(country, leftOut);
            return union(ahead, WAY_MONTHS) != 0;
        }

        int boughtSeals(Country country) {
            if (someWay(country, NONE)) {
                return 0;
            }
            int set = 0;
            for (int i = 0; i < count; i++) {
                if (someWay(country, i)) {
                    set |= 1 << i;
                }
            }
            return set;
        }

        void sweepBoth(Country country) {
            sweepAhead(country, NONE);
            sweepBehind(country);
        }

        int townsAt(int month) {
            int set = 0;
            for (int s = 0; s < STAYS; s++) {
                set |= ahead[month * STAYS + s] & behind[month * STAYS + s];
            }
            return set;
        }

        int widestMonth() {
            int found = NONE;
            int most = 1;
            for (int month = 1; month <= WAY_MONTHS; month++) {
                int towns = Integer.bitCount(townsAt(month));
                if (towns > most) {
                    most = towns;
                    found = month;
                }
            }
            return found;
        }

        private void sweepAhead(Country country, int leftOut) {
            country.fillExits(exits, 0);
            for (int s = 0; s < STAYS; s++) {
                ahead[s] = s == 0 && country.towns > 0 ? 1 : 0;
            }
            for (int month = 0; month < WAY_MONTHS; month++) {
                int from = month * STAYS;
                int to = from + STAYS;
                int stays = staysIn(country, month, leftOut);
                ahead[to] = isTold(month, leftOut) ? 0 : exitsOf(union(ahead, month), exits);
                for (int s = 1; s < STAYS; s++) {
                    ahead[to + s] = s <= country.stayLimit ? ahead[from + s - 1] & stays : 0;
                }
            }
        }

        private void sweepBehind(Country country) {
            for (int s = 0; s < STAYS; s++) {
                behind[WAY_MONTHS * STAYS + s] = country.allTowns();
            }
            for (int month = WAY_MONTHS - 1; month >= 0; month--) {
                int to = month * STAYS;
                int from = to + STAYS;
                int stays = staysIn(country, month, NONE);
                int walks = isTold(month, NONE) ? 0 : entriesTo(behind[from]);
                for (int s = 0; s < STAYS; s++) {
                    behind[to + s] = walks | (s < country.stayLimit ? behind[from + s + 1] & stays : 0);
                }
            }
        }

        /** The TOWNS from which a WALK leads into a SET. */
        private int entriesTo(int set) {
            int from = 0;
            for (int t = 0; t < MAX_TOWNS; t++) {
                if ((exits[t] & set) != 0) {
                    from |= 1 << t;
                }
            }
            return from;
        }

        private boolean isTold(int month, int leftOut) {
            for (int i = 0; i < count; i++) {
                if (i != leftOut && sealMonth[i] == month) {
                    return true;
                }
            }
            return false;
        }

        /** The TOWNS in which a month can be STAYED, by the TOLD SEALS of this month. */
        private int staysIn(Country country, int month, int leftOut) {
            int set = ALL_TOWNS;
            for (int i = 0; i < count; i++) {
                if (i != leftOut && sealMonth[i] == month) {
                    set &= country.worksIn(sealTown[i], month) ? 1 << sealTown[i] : 0;
                }
            }
            return set;
        }

        private static int union(int[] rows, int month) {
            int set = 0;
            for (int s = 0; s < STAYS; s++) {
                set |= rows[month * STAYS + s];
            }
            return set;
        }
    }
}
