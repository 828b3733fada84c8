/**
 * A book of deaths by things, and of what was forfeit for them: the document tells the law in numbered promises.
 *
 * Everything is held in arrays that are made with the object, so that no call makes anything;
 * sets of THINGS, ACTS, SORTS and DEATHS are the bits of an int.
 */
public final class ForfeitBook {
    public static final int BAD = -1, FULL = -2, FINDING = -3, STATE = -4, NONE = -9;

    private static final int NOTHING = 1, BEYOND = 2, UNLIKE = 3, NOUGHT = 4, SIZE = 5;
    private static final int ROWS = 6, ROW_PLACES = 40, MISSING = -1;
    private static final int THINGS = 20, SORTS = 10, WORTH_MOST = 10000;
    private static final int THING = 0, BEAST = 1, ENGINE = 2, STANDING = 3;
    private static final int DEATHS = 12, PLACES = 8, FIRST_YEAR = 1000, LAST_YEAR = 1900, TOLD_MOST = 100000;
    private static final int ACTS = 10, DOUBTS = 5, READINGS = 1 << DOUBTS, ACT_PLACES = 4;
    private static final int GOES = 0, MOVES = 1, STRIKES = 2, FELL = 3;
    private static final int EVERY_ACT = (1 << ACTS) - 1;
    private static final int TEXTS = 8, TOPS_OF_HIT = 0, HIT = 1, TOPS_OF_BLAME = 2, BLAME = 3;
    private static final int GRANTS = 10, LORDS = 8, KING = 9, TWELFTHS = 12;
    private static final int ALL_SORTS = 10;
    // Every CHANCE is told of as many coins as there can be DEATHS, so that any two compare as whole numbers.
    private static final int CHANCES = 1 << DEATHS;
    private static final int CHANGES = 16;

    private final Rows rows = new Rows();
    private final Things things = new Things();
    private final Deaths deaths = new Deaths();
    private final Texts texts = new Texts();
    private final Grants grants = new Grants();
    private final Inquest inquest = new Inquest(things, deaths);
    private final Ruling now = new Ruling(things);
    private final Ruling changed = new Ruling(things);
    private final int[] findingCounts = new int[SIZE + 1];
    private int latestFinding = 0;
    private int lastTold = 0;
    private long upperNumber = 0;
    private long lowerNumber = 1;

    public ForfeitBook() {
    }

    // ---- 1 rows, things

    public int row(int r, int n) {
        if (!isBelow(r, ROWS) || n > ROW_PLACES) return BAD;
        if (n < 0) return found(SIZE);
        rows.make(r, n);
        return n;
    }

    public int lay(int r, int i, int v) {
        if (!isBelow(r, ROWS)) return BAD;
        if (rows.isMissing(r)) return found(NOTHING);
        if (!rows.reaches(r, i, 1)) return found(BEYOND);
        int was = rows.at(r, i);
        rows.put(r, i, v);
        return tell(was, 1);
    }

    public int tear(int r) {
        if (!isBelow(r, ROWS)) return BAD;
        if (rows.isMissing(r)) return found(NOTHING);
        rows.drop(r);
        return 1;
    }

    public int copy(int r, int i, int to, int j, int n) {
        if (!isBelow(r, ROWS) || !isBelow(to, ROWS)) return BAD;
        if (n < 0) return found(SIZE);
        if (rows.isMissing(r) || rows.isMissing(to)) return found(NOTHING);
        if (!rows.reaches(r, i, n) || !rows.reaches(to, j, n)) return found(BEYOND);
        rows.carry(r, i, to, j, n);
        return 1;
    }

    public int thing(int kind, int sort, int worth, int whole) {
        if (!isBetween(kind, THING, STANDING) || !isBelow(sort, SORTS) || !isBetween(worth, 0, WORTH_MOST)) return BAD;
        if (whole != NONE && !things.has(whole)) return BAD;
        if (things.count >= THINGS) return FULL;
        return things.add(kind, sort, worth, whole);
    }

    public int on(int t, int other) {
        if (!things.has(t) || t == other) return BAD;
        if (other != NONE && !things.has(other)) return BAD;
        if (things.liesBeneath(t, other)) return STATE;
        int was = things.on[t];
        things.layOn(t, other);
        return was;
    }

    public int told(int t, int what) {
        if (!things.has(t) || !isBetween(what, 0, 6)) return BAD;
        return tell(things.fact(t, what), 1);
    }

    public int mark(int t, int kind) {
        if (!things.has(t) || !isBetween(kind, BEAST, STANDING)) return BAD;
        if (!things.isA(t, kind)) return found(UNLIKE);
        int marked = 0;
        for (int d = 0; d < deaths.count; d++) {
            if (isIn(markedIn(d, kind), t)) marked++;
        }
        return marked;
    }

    private int markedIn(int d, int kind) {
        if (kind == BEAST) return deaths.actors(d, EVERY_ACT, GOES);
        if (kind == ENGINE) return deaths.actors(d, EVERY_ACT, MOVES);
        return deaths.hit(d, EVERY_ACT);
    }

    public int worth(int t, int w) {
        if (!things.has(t) || !isBetween(w, 0, WORTH_MOST)) return BAD;
        int was = things.worth[t];
        things.changeWorth(t, w);
        return was;
    }

    public int mean(int sort) {
        if (!isBelow(sort, SORTS)) return BAD;
        int sum = 0;
        int among = 0;
        for (int t = 0; t < things.count; t++) {
            if (things.sort[t] == sort) {
                sum += things.worth[t];
                among++;
            }
        }
        if (among == 0) return found(NOUGHT);
        return tell(sum / among, 1);
    }

    // ---- 2 deaths, readings

    public int death(int place, int year, int told) {
        if (!isBelow(place, PLACES) || !isYear(year) || !isToldWorth(told)) return BAD;
        if (deaths.count >= DEATHS) return FULL;
        return deaths.add(place, year, told);
    }

    public int act(int death, int sort, int a, int b, boolean sure) {
        if (!deaths.has(death) || !isAct(sort, a, b)) return BAD;
        if (deaths.actCount[death] >= ACTS) return FULL;
        if (!sure && deaths.doubtCount[death] >= DOUBTS) return FULL;
        deaths.addAct(death, sort, a, b, sure);
        return deaths.actCount[death];
    }

    public int acts(int death, int r) {
        if (!deaths.has(death) || !isBelow(r, ROWS)) return BAD;
        if (rows.isMissing(r)) return found(NOTHING);
        int size = rows.sizes[r];
        if (size % ACT_PLACES != 0 || size / ACT_PLACES > ACTS) return found(SIZE);
        if (!holdsActs(r)) return found(UNLIKE);
        deaths.dropActs(death);
        for (int i = 0; i < size; i += ACT_PLACES) {
            deaths.addAct(death, rows.at(r, i), rows.at(r, i + 1), rows.at(r, i + 2), rows.at(r, i + 3) == 1);
        }
        return deaths.actCount[death];
    }

    /** Looks at all ACTS of a ROW of whole fours ahead of the first change, for a refused call changes none. */
    private boolean holdsActs(int r) {
        int doubts = 0;
        for (int i = 0; i < rows.sizes[r]; i += ACT_PLACES) {
            int sure = rows.at(r, i + 3);
            if (!isBetween(sure, 0, 1) || !isAct(rows.at(r, i), rows.at(r, i + 1), rows.at(r, i + 2))) return false;
            if (sure == 0) doubts++;
        }
        return doubts <= DOUBTS;
    }

    private boolean isAct(int sort, int a, int b) {
        if (!isBetween(sort, GOES, FELL) || !things.has(a)) return false;
        return sort != MOVES || things.has(b) && a != b;
    }

    public int deathTold(int d, int what) {
        if (!deaths.has(d) || !isBetween(what, 0, 5)) return BAD;
        return tell(deaths.fact(d, what), 1);
    }

    public int moving(int d, int reading) {
        if (!deaths.hasReading(d, reading)) return BAD;
        inquest.hear(d, reading, reading);
        return tellSet(inquest.moving[reading]);
    }

    public int blame(int d, int reading) {
        if (!deaths.hasReading(d, reading)) return BAD;
        inquest.hear(d, reading, reading);
        return tellSet(inquest.blame[reading]);
    }

    public int text(int year, int rule, boolean stood, int free) {
        if (!isYear(year) || !isLaw(rule, free)) return BAD;
        if (texts.count >= TEXTS) return FULL;
        return texts.add(year, rule, stood, free);
    }

    public int inForce(int year) {
        if (!isYear(year)) return BAD;
        return texts.latestBy(year);
    }

    public int forfeit(int d, int reading, int text) {
        if (!deaths.hasReading(d, reading) || !texts.has(text)) return BAD;
        inquest.hear(d, reading, reading);
        int spared = things.ofSorts(texts.free[text]);
        return tellSet(inquest.falls(reading, texts.rule[text], texts.stood[text], spared));
    }

    public int value(int d, int reading) {
        if (!deaths.hasReading(d, reading)) return BAD;
        ruleNow(d);
        int set = now.sets[reading];
        return tell(set, things.priceOf(set));
    }

    public int sure(int d, boolean maybe) {
        if (!deaths.has(d)) return BAD;
        ruleNow(d);
        return tellSet(maybe ? now.inSome() : now.inEach());
    }

    public int due(int d) {
        if (!deaths.has(d)) return BAD;
        ruleNow(d);
        return tell(now.dueReading, now.dueValue);
    }

    public int unlike(int d) {
        if (!deaths.has(d)) return BAD;
        ruleNow(d);
        return now.unlikeSets(0, 0);
    }

    public int settle(int d) {
        if (!deaths.has(d)) return BAD;
        if (deaths.doubtCount[d] == 0) return NONE;
        ruleNow(d);
        int best = 0;
        int fewest = READINGS + 1;
        for (int doubt = 0; doubt < deaths.doubtCount[d]; doubt++) {
            int bit = 1 << doubt;
            int left = Math.max(now.unlikeSets(bit, 0), now.unlikeSets(bit, bit));
            if (left < fewest) {
                fewest = left;
                best = doubt;
            }
        }
        return tell(fewest, deaths.doubtfulAct(d, best));
    }

    /** What falls in all READINGS of a DEATH by the TEXT IN FORCE in its YEAR. */
    private void ruleNow(int d) {
        inquest.hear(d, 0, deaths.readings(d) - 1);
        int text = texts.latestBy(deaths.year[d]);
        if (text == NONE) {
            now.letAllGo(inquest);
        } else {
            now.rule(inquest, texts.rule[text], texts.stood[text], texts.free[text]);
        }
    }

    // ---- 3 juries, grants

    public int jury(int d, int v) {
        if (!deaths.has(d) || !isToldWorth(v)) return BAD;
        int was = deaths.told[d];
        deaths.told[d] = v;
        return was;
    }

    public int habit(int place, int from, int to) {
        if (!isBelow(place, PLACES) || !areYears(from, to)) return BAD;
        int chance = chanceOf(place, from, to);
        if (chance == NONE) return found(NOUGHT);
        tellFraction(chance, CHANCES);
        return 20 * chance < CHANCES ? 1 : 0;
    }

    public int worstPlace(int from, int to) {
        if (!areYears(from, to)) return BAD;
        int worst = NONE;
        int least = CHANCES + 1;
        for (int place = 0; place < PLACES; place++) {
            int chance = chanceOf(place, from, to);
            if (chance != NONE && chance < least) {
                least = chance;
                worst = place;
            }
        }
        return worst;
    }

    /** The CHANCE of a HABIT, of CHANCES in all; NONE, if no DEATH there and then can be CUT. */
    private int chanceOf(int place, int from, int to) {
        int coins = 0;
        int cut = 0;
        for (int d = 0; d < deaths.count; d++) {
            if (deaths.place[d] != place || !deaths.isWithin(d, from, to) || deaths.told[d] == NONE) continue;
            ruleNow(d);
            if (now.dueValue <= 0) continue;
            coins++;
            if (2 * deaths.told[d] < now.dueValue) cut++;
        }
        if (coins == 0) return NONE;
        return waysToFall(coins, cut) << (DEATHS - coins);
    }

    /** In how many of the ways in which so many coins can fall that many or more are heads. */
    private static int waysToFall(int coins, int heads) {
        int sum = 0;
        int ways = 1;
        for (int k = 0; k <= coins; k++) {
            if (k >= heads) sum += ways;
            ways = ways * (coins - k) / (k + 1);
        }
        return sum;
    }

    public int shortfall(int from, int to) {
        if (!areYears(from, to)) return BAD;
        int sum = 0;
        int among = 0;
        for (int d = 0; d < deaths.count; d++) {
            if (!deaths.isWithin(d, from, to) || deaths.told[d] == NONE) continue;
            ruleNow(d);
            sum += now.dueValue - deaths.told[d];
            among++;
        }
        return tell(sum, among);
    }

    public int grant(int lord, int place, int from, int to, int sorts, int twelfths) {
        if (!isBelow(lord, LORDS) || !isBelow(place, PLACES) || !areYears(from, to)) return BAD;
        if (!areSorts(sorts) || !isBetween(twelfths, 1, TWELFTHS)) return BAD;
        if (grants.count >= GRANTS) return FULL;
        grants.add(lord, place, from, to, sorts, twelfths);
        return grants.count;
    }

    public int taker(int d, int t) {
        if (!deaths.has(d) || !things.has(t)) return BAD;
        ruleNow(d);
        if (!isIn(now.dueSet(), t)) return NONE;
        int g = grantOver(d, t);
        int lord = g == NONE ? KING : grants.lord[g];
        return tell(shareOf(lord, d, t), lord);
    }

    public int takes(int lord, int from, int to) {
        if (!isBelow(lord, LORDS) && lord != KING || !areYears(from, to)) return BAD;
        int sum = 0;
        int among = 0;
        for (int d = 0; d < deaths.count; d++) {
            if (!deaths.isWithin(d, from, to)) continue;
            int taken = takenOf(d, lord);
            sum += taken;
            if (taken > 0) among++;
        }
        return tell(sum, among);
    }

    private int takenOf(int d, int lord) {
        ruleNow(d);
        int sum = 0;
        for (int t = 0; t < things.count; t++) {
            if (isIn(now.dueSet(), t)) sum += shareOf(lord, d, t);
        }
        return sum;
    }

    /** What a LORD or the KING takes of a THING that is forfeit in a DEATH. */
    private int shareOf(int lord, int d, int t) {
        int price = things.price[t];
        int g = grantOver(d, t);
        int granted = g == NONE ? 0 : price * grants.twelfths[g] / TWELFTHS;
        if (lord == KING) return price - granted;
        return g != NONE && grants.lord[g] == lord ? granted : 0;
    }

    private int grantOver(int d, int t) {
        return grants.firstFor(deaths.place[d], deaths.year[d], things.sort[t]);
    }

    // ---- 4 changes

    public int otherwise(int rule, boolean stood, int free) {
        if (!isLaw(rule, free)) return BAD;
        int bits = 0;
        for (int d = 0; d < deaths.count; d++) {
            ruleBoth(d, rule, stood, free);
            if (now.dueSet() != changed.dueSet()) bits |= 1 << d;
        }
        return tellSet(bits);
    }

    public int freed(int rule, boolean stood, int free) {
        if (!isLaw(rule, free)) return BAD;
        int bits = 0;
        for (int d = 0; d < deaths.count; d++) {
            ruleBoth(d, rule, stood, free);
            if (now.dueSet() != 0 && changed.dueSet() == 0) bits |= 1 << d;
        }
        return tellSet(bits);
    }

    public int shift(int rule, boolean stood, int free, int sort) {
        if (!isLaw(rule, free) || !isBetween(sort, 0, ALL_SORTS)) return BAD;
        int wanted = things.ofSorts(sort == ALL_SORTS ? (1 << SORTS) - 1 : 1 << sort);
        int sum = 0;
        for (int d = 0; d < deaths.count; d++) {
            ruleBoth(d, rule, stood, free);
            sum += things.priceOf(changed.dueSet() & wanted) - things.priceOf(now.dueSet() & wanted);
        }
        return tell(sum, 1);
    }

    public int leastChange(int sort, int free) {
        if (!isBelow(sort, SORTS) || !areSorts(free)) return BAD;
        int left = (1 << CHANGES) - 1;
        for (int d = 0; d < deaths.count && left != 0; d++) {
            left = changesThatFit(d, sort, free, left);
        }
        for (int c = 0; c < CHANGES; c++) {
            if (isIn(left, c)) return 100 * ruleOfChange(c) + (stoodOfChange(c) ? 10 : 0) + withOfChange(c);
        }
        return NONE;
    }

    /** Those of some CHANGES that free a DEATH of this SORT alone, or leave any other DEATH as it is. */
    private int changesThatFit(int d, int sort, int free, int changes) {
        ruleNow(d);
        int kept = now.dueSet();
        if ((kept & ~things.ofSorts(1 << sort)) == 0) kept = 0;
        int fit = 0;
        for (int c = 0; c < CHANGES; c++) {
            if (!isIn(changes, c)) continue;
            int freeThen = free & ~(1 << sort) | withOfChange(c) << sort;
            changed.rule(inquest, ruleOfChange(c), stoodOfChange(c), freeThen);
            if (changed.dueSet() == kept) fit |= 1 << c;
        }
        return fit;
    }

    // CHANGES are numbered in the order in which the first of them is looked for.
    private static int ruleOfChange(int c) {
        return c >> 2;
    }

    private static boolean stoodOfChange(int c) {
        return (c & 2) != 0;
    }

    private static int withOfChange(int c) {
        return c & 1;
    }

    private void ruleBoth(int d, int rule, boolean stood, int free) {
        ruleNow(d);
        changed.rule(inquest, rule, stood, free);
    }

    // ---- 5 what is told

    public int asked() {
        return lastTold;
    }

    public long upper() {
        return upperNumber;
    }

    public long lower() {
        return lowerNumber;
    }

    public int count(int what) {
        switch (what) {
            case 0: return things.count;
            case 1: return deaths.count;
            case 2: return deaths.actsInAll();
            case 3: return texts.count;
            case 4: return grants.count;
            case 5: return rows.there();
            default: return BAD;
        }
    }

    public int finding() {
        return latestFinding;
    }

    public int findings(int f) {
        if (!isBetween(f, NOTHING, SIZE)) return BAD;
        return findingCounts[f];
    }

    public long digest() {
        long h = 17;
        for (int what = 0; what <= 5; what++) {
            h = mixed(h, count(what));
        }
        h = things.mixInto(h);
        h = deaths.mixInto(h);
        h = texts.mixInto(h);
        h = grants.mixInto(h);
        return rows.mixInto(h);
    }

    private int found(int finding) {
        latestFinding = finding;
        findingCounts[finding]++;
        return FINDING;
    }

    private int tell(int told, int answer) {
        lastTold = told;
        return answer;
    }

    private int tellSet(int bits) {
        return tell(bits, Integer.bitCount(bits));
    }

    /** Halves are enough: the lower number is always a power of two. */
    private void tellFraction(int up, int low) {
        int twos = Integer.numberOfTrailingZeros(up | low);
        upperNumber = up >> twos;
        lowerNumber = low >> twos;
    }

    private static boolean isBetween(int n, int least, int most) {
        return n >= least && n <= most;
    }

    private static boolean isBelow(int n, int bound) {
        return n >= 0 && n < bound;
    }

    private static boolean isYear(int year) {
        return isBetween(year, FIRST_YEAR, LAST_YEAR);
    }

    private static boolean areYears(int from, int to) {
        return isYear(from) && isYear(to) && from <= to;
    }

    private static boolean isToldWorth(int v) {
        return v == NONE || isBetween(v, 0, TOLD_MOST);
    }

    private static boolean areSorts(int bits) {
        return isBelow(bits, 1 << SORTS);
    }

    private static boolean isLaw(int rule, int free) {
        return isBetween(rule, TOPS_OF_HIT, BLAME) && areSorts(free);
    }

    /** NONE is in no set, though a shift by it would find some bit. */
    private static boolean isIn(int set, int n) {
        return n >= 0 && (set >> n & 1) == 1;
    }

    private static int bitOf(int n) {
        return n < 0 ? 0 : 1 << n;
    }

    private static long mixed(long h, long v) {
        return 31 * h + v;
    }

    private static final class Rows {
        private final int[] sizes = new int[ROWS];
        private final int[] places = new int[ROWS * ROW_PLACES];

        Rows() {
            for (int r = 0; r < ROWS; r++) {
                sizes[r] = MISSING;
            }
        }

        boolean isMissing(int r) {
            return sizes[r] == MISSING;
        }

        /** Compares by what is left, for a sum of place and number could wrap around. */
        boolean reaches(int r, int i, int n) {
            return i >= 0 && i <= sizes[r] - n;
        }

        int at(int r, int i) {
            return places[r * ROW_PLACES + i];
        }

        void put(int r, int i, int v) {
            places[r * ROW_PLACES + i] = v;
        }

        void make(int r, int n) {
            sizes[r] = n;
            for (int i = 0; i < n; i++) {
                put(r, i, 0);
            }
        }

        void drop(int r) {
            sizes[r] = MISSING;
        }

        void carry(int r, int i, int to, int j, int n) {
            System.arraycopy(places, r * ROW_PLACES + i, places, to * ROW_PLACES + j, n);
        }

        int there() {
            int sum = 0;
            for (int r = 0; r < ROWS; r++) {
                if (!isMissing(r)) sum++;
            }
            return sum;
        }

        long mixInto(long start) {
            long h = start;
            for (int r = 0; r < ROWS; r++) {
                h = mixed(h, sizes[r]);
                for (int i = 0; i < sizes[r]; i++) {
                    h = mixed(h, at(r, i));
                }
            }
            return h;
        }
    }

    /**
     * WHOLES never change, so TOPS, PARTS and the WHOLES at all heights are kept; PRICES go along with each WORTH.
     * What THINGS are laden with is kept apart from their PARTS, for a PART may lie ON its WHOLE and be lifted again.
     */
    private static final class Things {
        private final int[] kind = new int[THINGS];
        private final int[] sort = new int[THINGS];
        private final int[] worth = new int[THINGS];
        private final int[] whole = new int[THINGS];
        private final int[] on = new int[THINGS];
        private final int[] top = new int[THINGS];
        private final int[] wholes = new int[THINGS];
        private final int[] price = new int[THINGS];
        private final int[] parts = new int[THINGS];
        private final int[] laden = new int[THINGS];
        private int beasts = 0;
        private int standing = 0;
        private int count = 0;

        boolean has(int t) {
            return isBelow(t, count);
        }

        int add(int kindOfIt, int sortOfIt, int worthOfIt, int wholeOfIt) {
            int t = count;
            count++;
            kind[t] = kindOfIt;
            sort[t] = sortOfIt;
            whole[t] = wholeOfIt;
            on[t] = NONE;
            top[t] = wholeOfIt == NONE ? t : top[wholeOfIt];
            wholes[t] = wholeOfIt == NONE ? 0 : wholes[wholeOfIt] | bitOf(wholeOfIt);
            if (wholeOfIt != NONE) parts[wholeOfIt] |= bitOf(t);
            changeWorth(t, worthOfIt);
            if (isA(t, BEAST)) beasts |= bitOf(t);
            if (isA(t, STANDING)) standing |= bitOf(t);
            return t;
        }

        boolean isA(int t, int kindAsked) {
            return kind[t] == kindAsked || kindAsked == BEAST && kind[t] == ENGINE;
        }

        void changeWorth(int t, int w) {
            int more = w - worth[t];
            worth[t] = w;
            price[t] += more;
            for (int u = 0; u < t; u++) {
                if (isIn(wholes[t], u)) price[u] += more;
            }
        }

        void layOn(int t, int other) {
            if (on[t] != NONE) laden[on[t]] &= ~bitOf(t);
            if (other != NONE) laden[other] |= bitOf(t);
            on[t] = other;
        }

        /** Whether the one that is asked for is found on the way from another one to what it lies ON, and so on. */
        boolean liesBeneath(int sought, int start) {
            int t = start;
            for (int step = 0; step < count && t != NONE; step++) {
                if (t == sought) return true;
                t = on[t];
            }
            return false;
        }

        int fact(int t, int what) {
            switch (what) {
                case 0: return kind[t];
                case 1: return sort[t];
                case 2: return worth[t];
                case 3: return whole[t];
                case 4: return top[t];
                case 5: return price[t];
                default: return on[t];
            }
        }

        int ofSorts(int sorts) {
            int bits = 0;
            for (int t = 0; t < count; t++) {
                if (isIn(sorts, sort[t])) bits |= bitOf(t);
            }
            return bits;
        }

        int topsOf(int set) {
            int bits = 0;
            for (int t = 0; t < count && set >> t != 0; t++) {
                if (isIn(set, t)) bits |= bitOf(top[t]);
            }
            return bits;
        }

        int withoutPartsOf(int set) {
            int bits = 0;
            for (int t = 0; t < count && set >> t != 0; t++) {
                if (isIn(set, t) && (wholes[t] & set) == 0) bits |= bitOf(t);
            }
            return bits;
        }

        int priceOf(int set) {
            int sum = 0;
            for (int t = 0; t < count && set >> t != 0; t++) {
                if (isIn(set, t)) sum += price[t];
            }
            return sum;
        }

        /** What a THING takes along when it moves, if that does not stand. */
        int borneBy(int t) {
            return parts[t] | laden[t];
        }

        int bearersOf(int t) {
            return bitOf(whole[t]) | bitOf(on[t]);
        }

        long mixInto(long start) {
            long h = start;
            for (int t = 0; t < count; t++) {
                for (int what = 0; what <= 6; what++) {
                    h = mixed(h, fact(t, what));
                }
            }
            return h;
        }
    }

    /** ACT k of DEATH d stands in place d * ACTS + k of the rows for ACTS. */
    private static final class Deaths {
        private final int[] place = new int[DEATHS];
        private final int[] year = new int[DEATHS];
        private final int[] told = new int[DEATHS];
        private final int[] actCount = new int[DEATHS];
        private final int[] doubtCount = new int[DEATHS];
        private final int[] actSort = new int[DEATHS * ACTS];
        private final int[] actA = new int[DEATHS * ACTS];
        private final int[] actB = new int[DEATHS * ACTS];
        private final boolean[] actSure = new boolean[DEATHS * ACTS];
        private int count = 0;

        boolean has(int d) {
            return isBelow(d, count);
        }

        boolean hasReading(int d, int reading) {
            return has(d) && isBelow(reading, readings(d));
        }

        int readings(int d) {
            return 1 << doubtCount[d];
        }

        boolean isWithin(int d, int from, int to) {
            return isBetween(year[d], from, to);
        }

        int add(int placeOfIt, int yearOfIt, int toldOfIt) {
            int d = count;
            count++;
            place[d] = placeOfIt;
            year[d] = yearOfIt;
            told[d] = toldOfIt;
            return d;
        }

        void addAct(int d, int sort, int a, int b, boolean isSure) {
            int k = d * ACTS + actCount[d];
            actSort[k] = sort;
            actA[k] = a;
            actB[k] = sort == MOVES ? b : NONE;
            actSure[k] = isSure;
            actCount[d]++;
            if (!isSure) doubtCount[d]++;
        }

        void dropActs(int d) {
            actCount[d] = 0;
            doubtCount[d] = 0;
        }

        int actsInAll() {
            int sum = 0;
            for (int d = 0; d < count; d++) {
                sum += actCount[d];
            }
            return sum;
        }

        /** The number among all ACTS of a doubtful one, by its number among these. */
        int doubtfulAct(int d, int doubt) {
            int seen = 0;
            for (int k = 0; k < actCount[d]; k++) {
                if (actSure[d * ACTS + k]) continue;
                if (seen == doubt) return k;
                seen++;
            }
            return NONE;
        }

        /** The ACTS that were so in a READING. */
        int actsThatWereSo(int d, int reading) {
            int bits = 0;
            int doubt = 0;
            for (int k = 0; k < actCount[d]; k++) {
                boolean isSure = actSure[d * ACTS + k];
                if (isSure || isIn(reading, doubt)) bits |= bitOf(k);
                if (!isSure) doubt++;
            }
            return bits;
        }

        int actors(int d, int so, int sort) {
            int bits = 0;
            for (int k = 0; k < actCount[d]; k++) {
                if (actSort[d * ACTS + k] == sort && isIn(so, k)) bits |= bitOf(actA[d * ACTS + k]);
            }
            return bits;
        }

        int hit(int d, int so) {
            return actors(d, so, STRIKES) | actors(d, so, FELL);
        }

        int movedBy(int d, int so, int t) {
            int bits = 0;
            for (int k = 0; k < actCount[d]; k++) {
                if (isIn(so, k) && actA[d * ACTS + k] == t) bits |= bitOf(actB[d * ACTS + k]);
            }
            return bits;
        }

        int moversOf(int d, int so, int t) {
            int bits = 0;
            for (int k = 0; k < actCount[d]; k++) {
                if (isIn(so, k) && actB[d * ACTS + k] == t) bits |= bitOf(actA[d * ACTS + k]);
            }
            return bits;
        }

        int fact(int d, int what) {
            switch (what) {
                case 0: return place[d];
                case 1: return year[d];
                case 2: return told[d];
                case 3: return actCount[d];
                case 4: return doubtCount[d];
                default: return readings(d);
            }
        }

        long mixInto(long start) {
            long h = start;
            for (int d = 0; d < count; d++) {
                for (int what = 0; what <= 5; what++) {
                    h = mixed(h, fact(d, what));
                }
                for (int k = d * ACTS; k < d * ACTS + actCount[d]; k++) {
                    h = mixed(mixed(h, actSort[k]), actA[k]);
                    h = mixed(mixed(h, actB[k]), actSure[k] ? 1 : 0);
                }
            }
            return h;
        }
    }

    private static final class Texts {
        private final int[] year = new int[TEXTS];
        private final int[] rule = new int[TEXTS];
        private final boolean[] stood = new boolean[TEXTS];
        private final int[] free = new int[TEXTS];
        private int count = 0;

        boolean has(int text) {
            return isBelow(text, count);
        }

        int add(int yearOfIt, int ruleOfIt, boolean stoodOfIt, int freeOfIt) {
            int text = count;
            count++;
            year[text] = yearOfIt;
            rule[text] = ruleOfIt;
            stood[text] = stoodOfIt;
            free[text] = freeOfIt;
            return text;
        }

        int latestBy(int yearAsked) {
            int latest = NONE;
            for (int text = 0; text < count; text++) {
                if (year[text] > yearAsked) continue;
                if (latest == NONE || year[text] >= year[latest]) latest = text;
            }
            return latest;
        }

        long mixInto(long start) {
            long h = start;
            for (int text = 0; text < count; text++) {
                h = mixed(mixed(h, year[text]), rule[text]);
                h = mixed(mixed(h, stood[text] ? 1 : 0), free[text]);
            }
            return h;
        }
    }

    private static final class Grants {
        private final int[] lord = new int[GRANTS];
        private final int[] place = new int[GRANTS];
        private final int[] from = new int[GRANTS];
        private final int[] to = new int[GRANTS];
        private final int[] sorts = new int[GRANTS];
        private final int[] twelfths = new int[GRANTS];
        private int count = 0;

        void add(int lordOfIt, int placeOfIt, int fromYear, int toYear, int sortsOfIt, int twelfthsOfIt) {
            int g = count;
            count++;
            lord[g] = lordOfIt;
            place[g] = placeOfIt;
            from[g] = fromYear;
            to[g] = toYear;
            sorts[g] = sortsOfIt;
            twelfths[g] = twelfthsOfIt;
        }

        int firstFor(int placeAsked, int year, int sort) {
            for (int g = 0; g < count; g++) {
                if (place[g] == placeAsked && isBetween(year, from[g], to[g]) && isIn(sorts[g], sort)) return g;
            }
            return NONE;
        }

        long mixInto(long start) {
            long h = start;
            for (int g = 0; g < count; g++) {
                h = mixed(mixed(h, lord[g]), place[g]);
                h = mixed(mixed(h, from[g]), to[g]);
                h = mixed(mixed(h, sorts[g]), twelfths[g]);
            }
            return h;
        }
    }

    /** What came to pass in each READING of one DEATH, found once and then held against any law. */
    private static final class Inquest {
        private final Things things;
        private final Deaths deaths;
        private final int[] moving = new int[READINGS];
        private final int[] hit = new int[READINGS];
        private final int[] blame = new int[READINGS];
        private int readings = 0;

        Inquest(Things thingsOfBook, Deaths deathsOfBook) {
            things = thingsOfBook;
            deaths = deathsOfBook;
        }

        void hear(int d, int first, int last) {
            readings = deaths.readings(d);
            for (int reading = first; reading <= last; reading++) {
                int so = deaths.actsThatWereSo(d, reading);
                moving[reading] = whatMoves(d, so);
                hit[reading] = deaths.hit(d, so);
                blame[reading] = whatIsToBlame(d, so, moving[reading], hit[reading]);
            }
        }

        /** Each step follows one THING and none twice, so there are no more steps than THINGS. */
        private int whatMoves(int d, int so) {
            int set = deaths.actors(d, so, GOES) & things.beasts;
            int toFollow = set;
            for (int step = 0; step < THINGS && toFollow != 0; step++) {
                int t = Integer.numberOfTrailingZeros(toFollow);
                int more = (things.borneBy(t) | deaths.movedBy(d, so, t)) & ~things.standing & ~set;
                set |= more;
                toFollow = toFollow & ~bitOf(t) | more;
            }
            return set;
        }

        private int whatIsToBlame(int d, int so, int movingThen, int hitThen) {
            int set = hitThen & movingThen;
            int toFollow = set;
            for (int step = 0; step < THINGS && toFollow != 0; step++) {
                int t = Integer.numberOfTrailingZeros(toFollow);
                int more = (things.bearersOf(t) | deaths.moversOf(d, so, t)) & movingThen & ~set;
                set |= more;
                toFollow = toFollow & ~bitOf(t) | more;
            }
            return set;
        }

        /** What is forfeit in a READING that was heard, by a law that spares some THINGS. */
        int falls(int reading, int rule, boolean stood, int spared) {
            boolean byHit = rule == TOPS_OF_HIT || rule == HIT;
            int set = byHit ? hit[reading] & moving[reading] : blame[reading];
            if (stood) set |= hit[reading] & ~moving[reading];
            if (rule == TOPS_OF_HIT || rule == TOPS_OF_BLAME) set = things.topsOf(set);
            return things.withoutPartsOf(set & ~spared);
        }
    }

    /** What is forfeit in each READING of a DEATH by one law. */
    private static final class Ruling {
        private final Things things;
        private final int[] sets = new int[READINGS];
        private int readings = 0;
        private int dueReading = 0;
        private int dueValue = 0;

        Ruling(Things thingsOfBook) {
            things = thingsOfBook;
        }

        void rule(Inquest inquest, int rule, boolean stood, int free) {
            int spared = things.ofSorts(free);
            readings = inquest.readings;
            for (int reading = 0; reading < readings; reading++) {
                sets[reading] = inquest.falls(reading, rule, stood, spared);
            }
            findDue();
        }

        void letAllGo(Inquest inquest) {
            readings = inquest.readings;
            for (int reading = 0; reading < readings; reading++) {
                sets[reading] = 0;
            }
            findDue();
        }

        private void findDue() {
            dueReading = 0;
            dueValue = things.priceOf(sets[0]);
            for (int reading = 1; reading < readings; reading++) {
                int price = things.priceOf(sets[reading]);
                if (price < dueValue) {
                    dueValue = price;
                    dueReading = reading;
                }
            }
        }

        int dueSet() {
            return sets[dueReading];
        }

        int inEach() {
            int set = sets[0];
            for (int reading = 1; reading < readings; reading++) {
                set &= sets[reading];
            }
            return set;
        }

        int inSome() {
            int set = 0;
            for (int reading = 0; reading < readings; reading++) {
                set |= sets[reading];
            }
            return set;
        }

        /** How many unlike sets there are among READINGS in which the masked doubtful ACTS are as wanted. */
        int unlikeSets(int mask, int wanted) {
            int sum = 0;
            for (int reading = 0; reading < readings; reading++) {
                if ((reading & mask) == wanted && isNewAt(reading, mask, wanted)) sum++;
            }
            return sum;
        }

        private boolean isNewAt(int reading, int mask, int wanted) {
            for (int earlier = 0; earlier < reading; earlier++) {
                if ((earlier & mask) == wanted && sets[earlier] == sets[reading]) return false;
            }
            return true;
        }
    }
}
