/** A town that pays with light coins and heavy ones; ../shared/DOC.md has the promises. */
public final class LightCoins {
    public static final int BAD = -1, STATE = -2, FULL = -3, NONE = -9;
    public static final long NO = -1000000000000000000L;

    private static final int MOST_PEOPLE = 8, WEIGHTS = 10, LIGHTEST = 9, MOST_COINS = 99;
    private static final int WHOLE = 10;
    private static final int MOST_TAKERS = 30;
    private static final int LAST_YEAR = 1000, MOST_YEARS_AHEAD = 1000;

    private static final int LIMIT = 0, LOOKING = 1, FINE = 2, RISK = 3, SILVER = 4, WEAR = 5;

    private final Text text;
    private final Purses purses;
    private final Purses scratch;
    private final Tunes tunes;
    private final Meeting latest;
    private final Day day;
    private final Laws laws;
    private final Image[] images;
    private Town town;
    private Town draft;
    private int lot;
    private int year;
    private long trace;

    public LightCoins() {
        text = new Text();
        purses = new Purses();
        scratch = new Purses();
        tunes = new Tunes();
        latest = new Meeting();
        day = new Day();
        laws = new Laws();
        images = new Image[] {new Image(), new Image()};
        town = new Town();
        draft = new Town();
        lot = 1;
        year = 0;
        trace = 0;
    }

    // ---- towns, purses

    public int type(long v, int n) {
        if (n < 1 || n > 8) {
            return BAD;
        }
        if (!text.hasRoom(n)) {
            return FULL;
        }
        for (int i = n - 1; i >= 0; i--) {
            text.append((int) ((v >>> (8 * i)) & 255));
        }
        return text.length;
    }

    public int clear() {
        int had = text.length;
        text.length = 0;
        return had;
    }

    public int town() {
        int fault = text.readInto(draft);
        if (fault != Text.NO_FAULT) {
            return -10 - fault;
        }
        Town read = draft;
        draft = town;
        town = read;
        text.length = 0;
        purses.empty();
        latest.forget();
        images[0].kept = false;
        images[1].kept = false;
        return town.people;
    }

    public int person(int p, int what) {
        if (!isPerson(p)) {
            return BAD;
        }
        switch (what) {
            case 0:
                return town.way[p];
            case 1:
                return town.tenths[p];
            case 2:
                return town.pay[p];
            case 3:
                return town.others[p];
            case 4:
                return purses.coinsOf(p);
            default:
                return BAD;
        }
    }

    public int purse(int p, int w, int n) {
        if (!isPerson(p) || !isWeight(w) || n < 0 || n > MOST_COINS) {
            return BAD;
        }
        int had = purses.held(p, w);
        purses.put(p, w, n);
        return had;
    }

    public int coins(int p, int w) {
        if (!isWeight(w) || (p != -1 && !isPerson(p))) {
            return BAD;
        }
        return p == -1 ? purses.ofWeight(w) : purses.held(p, w);
    }

    public int tune(int what, int v) {
        return tunes.set(what, v);
    }

    public int lot(int v) {
        int was = lot;
        lot = v;
        return was;
    }

    // ---- meetings

    public int meet() {
        if (town.people < 2) {
            return STATE;
        }
        holdMeeting();
        return latest.paid;
    }

    public int run(int n) {
        if (n < 1 || n > 500) {
            return BAD;
        }
        if (town.people < 2) {
            return STATE;
        }
        int paid = 0;
        for (int i = 0; i < n; i++) {
            holdMeeting();
            if (latest.paid != NONE) {
                paid++;
            }
        }
        return paid;
    }

    public int met(int what) {
        switch (what) {
            case 0:
                return latest.payer;
            case 1:
                return latest.taker;
            case 2:
                return latest.looked;
            case 3:
                return latest.paid;
            default:
                return BAD;
        }
    }

    // ---- days

    public long gain(int n, int k, int which, int what) {
        if (which < 0 || which > 1 || !isUpperOrLower(what) || dayRefusal(n, k) != 0) {
            return NO;
        }
        day.lay(purses, n, tunes.of(LOOKING));
        if (which == 0) {
            return k == n ? NO : leastTerms(day.taleUpper(k), day.taleLower(k), what);
        }
        return k == 0 ? NO : leastTerms(day.lookUpper(k), day.lookLower(k), what);
    }

    public int rests(int n) {
        int refusal = dayRefusal(n, 0);
        if (refusal != 0) {
            return refusal;
        }
        day.lay(purses, n, tunes.of(LOOKING));
        return day.allThatRest();
    }

    public int goes(int n, int k) {
        int refusal = dayRefusal(n, k);
        if (refusal != 0) {
            return refusal;
        }
        day.lay(purses, n, tunes.of(LOOKING));
        return day.endFrom(k);
    }

    public int tip(int n) {
        int refusal = dayRefusal(n, 0);
        if (refusal != 0) {
            return refusal;
        }
        day.lay(purses, n, tunes.of(LOOKING));
        return day.leastThatEndsInAll();
    }

    public int out(int n, int k) {
        int refusal = dayRefusal(n, k);
        if (refusal != 0) {
            return refusal;
        }
        day.lay(purses, n, tunes.of(LOOKING));
        return day.weightsLeftOut(k);
    }

    public long clip(int w, int what) {
        if (!isWeight(w)) {
            return NO;
        }
        if (what == 2) {
            return clippedUntil(w);
        }
        return isUpperOrLower(what) ? leastTerms(worthScaled(w), worthScale(w), what) : NO;
    }

    // ---- years, changers, laws

    public int year(int n) {
        if (n < 1 || n > 50) {
            return BAD;
        }
        if (year + n > LAST_YEAR) {
            return STATE;
        }
        for (int i = 0; i < n; i++) {
            year++;
            if (divides(tunes.of(WEAR), year)) {
                purses.loseGrain();
            }
        }
        return year;
    }

    public long mean(int what) {
        int coins = purses.allCoins();
        if (!isUpperOrLower(what) || coins == 0) {
            return NO;
        }
        return leastTerms(purses.allGrains(), coins, what);
    }

    public int shabby(int m) {
        if (m < 0 || m > 100) {
            return BAD;
        }
        // A grain at least is there of each coin, so no mean falls below 10 tenths.
        if (m < 10 || purses.allCoins() == 0) {
            return NONE;
        }
        if (purses.isShabby(m)) {
            return 0;
        }
        scratch.copyFrom(purses);
        for (int years = 1; years <= MOST_YEARS_AHEAD; years++) {
            if (divides(tunes.of(WEAR), year + years)) {
                scratch.loseGrain();
                if (scratch.isShabby(m)) {
                    return years;
                }
            }
        }
        return NONE;
    }

    public int changer(int p, int c, int what) {
        if (!isPerson(p) || c < 0 || c > 99 || what < 0 || what > 1) {
            return BAD;
        }
        int best = 0;
        int highest = -1;
        for (int x = 0; x <= WEIGHTS; x++) {
            int held = heldAtWhenMelted(p, x, c);
            if (held >= highest) {
                highest = held;
                best = x;
            }
        }
        return what == 0 ? best : highest;
    }

    public int law(int k, int what, int v) {
        return laws.set(k, what, v);
    }

    public int cheapest(int a, int b, int what) {
        if (a < 0 || a > 999 || b < 0 || b > 999 || what < 0 || what > 1) {
            return BAD;
        }
        int set = laws.cheapestSet(tunes.of(LOOKING) - a, b - tunes.of(FINE));
        if (set == NONE || what == 1) {
            return set;
        }
        return laws.sumOf(set, Laws.COST);
    }

    public int first(int set, int what) {
        if (set < 0 || set > 255 || what < 0 || what > 1) {
            return BAD;
        }
        return what == 0 ? town.takersFrom(set) : town.roundsFrom(set);
    }

    public int seeds(int what) {
        if (what < 0 || what > 1) {
            return BAD;
        }
        int set = town.leastSeeds();
        return what == 0 ? Integer.bitCount(set) : set;
    }

    // ---- kinds, images

    public int labour(int kind, int p) {
        if (!isPerson(p)) {
            return BAD;
        }
        switch (kind) {
            case 0:
                return asWay(p);
            case 1:
                return asTale(p);
            case 2:
                return asLook(p);
            case 3:
                return asSome(p);
            case 4:
                return asPay(p);
            case 5:
                return asKeep(p);
            case 6:
                return asClip(p);
            default:
                return BAD;
        }
    }

    public int keep(int image) {
        if (!isImage(image)) {
            return BAD;
        }
        Image kept = images[image];
        kept.purses.copyFrom(purses);
        kept.lot = lot;
        kept.year = year;
        kept.kept = true;
        return purses.allCoins();
    }

    public int back(int image) {
        if (!isImage(image)) {
            return BAD;
        }
        Image kept = images[image];
        if (!kept.kept) {
            return STATE;
        }
        purses.copyFrom(kept.purses);
        lot = kept.lot;
        year = kept.year;
        return purses.allCoins();
    }

    public int count(int what) {
        switch (what) {
            case 0:
                return town.people;
            case 1:
                return purses.allCoins();
            case 2:
                return year;
            case 3:
                return text.length;
            case 4:
                return latest.number;
            case 5:
                return purses.allGrains();
            default:
                return BAD;
        }
    }

    public long trace() {
        return trace;
    }

    // ---- what the calls share

    private boolean isPerson(int p) {
        return p >= 0 && p < town.people;
    }

    private static boolean isWeight(int w) {
        return w >= 0 && w < WEIGHTS;
    }

    private static boolean isImage(int image) {
        return image >= 0 && image <= 1;
    }

    private static boolean isUpperOrLower(int what) {
        return what == 0 || what == 1;
    }

    private static boolean divides(int divisor, int n) {
        return divisor > 0 && n % divisor == 0;
    }

    /** BAD, STATE, or 0 for a day that can be. */
    private int dayRefusal(int n, int k) {
        if (n < 1 || n > MOST_TAKERS || k < 0 || k > n) {
            return BAD;
        }
        return n > purses.allCoins() ? STATE : 0;
    }

    /** The upper (what = 0) or the lower number of a fraction whose lower number is above 0. */
    private static long leastTerms(long upper, long lower, int what) {
        long common = commonDivisor(Math.abs(upper), lower);
        if (common == 0) {
            return NO;
        }
        return (what == 0 ? upper : lower) / common;
    }

    private static long commonDivisor(long a, long b) {
        long greater = a;
        long less = b;
        // Euclid's steps on longs are fewer than a hundred; the bound only shows that they end.
        for (int i = 0; i < 200 && less != 0; i++) {
            long left = greater % less;
            greater = less;
            less = left;
        }
        return greater;
    }

    // ---- a meeting

    private int draw() {
        lot = lot * 1103515245 + 12345;
        return lot >>> 16;
    }

    private void holdMeeting() {
        int m = town.people;
        if (m < 2) {
            return;
        }
        int payer = draw() % m;
        int taker = (payer + 1 + draw() % (m - 1)) % m;
        boolean looks = looksNow(taker);
        int paid = weightToPay(payer, looks);
        if (paid != NONE && !purses.move(payer, taker, paid)) {
            paid = NONE;
        }
        latest.note(payer, taker, looks ? 1 : 0, paid);
    }

    private boolean looksNow(int taker) {
        if (town.way[taker] == Town.SOME) {
            return draw() % 10 < town.tenths[taker];
        }
        return town.way[taker] == Town.LOOK;
    }

    private int weightToPay(int payer, boolean looks) {
        int most = looks ? tunes.of(LIMIT) : LIGHTEST;
        if (town.pay[payer] == Town.HEAVY) {
            for (int w = 0; w <= most; w++) {
                if (purses.held(payer, w) > 0) {
                    return w;
                }
            }
            return NONE;
        }
        for (int w = most; w >= 0; w--) {
            if (purses.held(payer, w) > 0) {
                return w;
            }
        }
        return NONE;
    }

    // ---- clipping

    private int worthAsItIs(int w) {
        return w <= tunes.of(LIMIT) ? WHOLE : WHOLE - w;
    }

    /** What the worth of a coin is scaled by, so that it is whole: ten for each clip that it may still have. */
    private static long worthScale(int w) {
        long scale = 1;
        for (int i = w; i < LIGHTEST; i++) {
            scale *= 10;
        }
        return scale;
    }

    private long worthScaled(int w) {
        long worth = worthAsItIs(LIGHTEST);
        for (int i = LIGHTEST - 1; i >= w; i--) {
            worth = Math.max(worthAsItIs(i) * worthScale(i), clippedScaled(i, worth));
        }
        return worth;
    }

    /** Of a coin that is clipped now: scaled as its worth, from the next weight's scaled worth. */
    private long clippedScaled(int w, long nextWorth) {
        long nextScale = worthScale(w + 1);
        long risk = tunes.of(RISK);
        return (10 - risk) * (tunes.of(SILVER) * nextScale + nextWorth) - risk * tunes.of(FINE) * nextScale;
    }

    private int clippedUntil(int w) {
        for (int i = w; i < LIGHTEST; i++) {
            if (clippedScaled(i, worthScaled(i + 1)) <= worthAsItIs(i) * worthScale(i)) {
                return i;
            }
        }
        return LIGHTEST;
    }

    // ---- the changer

    private int heldAtWhenMelted(int p, int x, int cut) {
        int held = 0;
        int melted = 0;
        for (int w = 0; w < WEIGHTS; w++) {
            int coins = purses.held(p, w);
            if (w >= x) {
                melted += coins * (WHOLE - w);
            } else {
                held += coins * worthAsItIs(w);
            }
        }
        return held + melted * (100 - cut) / 1000 * WHOLE;
    }

    // ---- labour: each kind's body counts itself into the trace, then asks the kind above

    private int asWay(int p) {
        trace += 1;
        return purses.coinsOf(p);
    }

    private int asTale(int p) {
        trace += 10;
        return asWay(p) + 1;
    }

    private int asLook(int p) {
        trace += 100;
        return asWay(p) + tunes.of(LOOKING) * purses.coinsAbove(p, tunes.of(LIMIT));
    }

    private int asSome(int p) {
        trace += 1000;
        return town.tenths[p] * asLook(p) / 10;
    }

    private int asPay(int p) {
        trace += 10000;
        return asWay(p) - purses.held(p, 0);
    }

    private int asKeep(int p) {
        trace += 100000;
        return 2 * asPay(p);
    }

    private int asClip(int p) {
        trace += 1000000;
        return asWay(p) + town.others[p];
    }

    /** The people as the text told them; how they come to take a new coin. */
    private static final class Town {
        static final int LOOK = 1, SOME = 2;
        static final int HEAVY = 1;

        final int[] way = new int[MOST_PEOPLE];
        final int[] tenths = new int[MOST_PEOPLE];
        final int[] pay = new int[MOST_PEOPLE];
        final int[] others = new int[MOST_PEOPLE];
        int people;

        private int everybody() {
            return (1 << people) - 1;
        }

        private int afterRound(int takers) {
            int number = Integer.bitCount(takers);
            int after = takers;
            for (int p = 0; p < people; p++) {
                if (number >= others[p]) {
                    after |= 1 << p;
                }
            }
            return after;
        }

        int takersFrom(int set) {
            int takers = set & everybody();
            for (int round = 0; round < MOST_PEOPLE; round++) {
                takers = afterRound(takers);
            }
            return takers;
        }

        int roundsFrom(int set) {
            int takers = set & everybody();
            for (int round = 0; round < MOST_PEOPLE; round++) {
                int after = afterRound(takers);
                if (after == takers) {
                    return round;
                }
                takers = after;
            }
            return MOST_PEOPLE;
        }

        int leastSeeds() {
            int best = everybody();
            for (int set = 0; set < everybody(); set++) {
                boolean fewer = Integer.bitCount(set) < Integer.bitCount(best);
                if (fewer && takersFrom(set) == everybody()) {
                    best = set;
                }
            }
            return best;
        }
    }

    /** The text as typed, and its reader: the token that stands next begins at 'start'. */
    private static final class Text {
        static final int MOST_BYTES = 300;
        static final int NO_FAULT = -1;

        private static final int END = 0, WRONG = 1, NUMBER = 2, SEMICOLON = 3;
        // Ways and pays stand in the order of the town's own numbers for them.
        private static final int TALE = 4, LOOK = 5, SOME = 6, LIGHT = 7, HEAVY = 8;

        private final int[] bytes = new int[MOST_BYTES];
        int length;
        private int at;
        private int start;
        private int token;
        private int number;

        boolean hasRoom(int n) {
            return length + n <= MOST_BYTES;
        }

        void append(int b) {
            if (hasRoom(1)) {
                bytes[length] = b;
                length++;
            }
        }

        /** The place of the fault, or NO_FAULT: then 'into' has the whole town. */
        int readInto(Town into) {
            at = 0;
            into.people = 0;
            advance();
            for (int i = 0; i <= MOST_BYTES && token != END; i++) {
                if (into.people >= MOST_PEOPLE || !readItem(into, into.people)) {
                    return start;
                }
                into.people++;
            }
            return NO_FAULT;
        }

        private boolean readItem(Town into, int p) {
            if (token != TALE && token != LOOK && token != SOME) {
                return false;
            }
            into.way[p] = token - TALE;
            into.tenths[p] = 0;
            advance();
            if (into.way[p] == Town.SOME) {
                if (token != NUMBER || number > 10) {
                    return false;
                }
                into.tenths[p] = number;
                advance();
            }
            if (token != LIGHT && token != HEAVY) {
                return false;
            }
            into.pay[p] = token - LIGHT;
            advance();
            if (token != NUMBER || number > 8) {
                return false;
            }
            into.others[p] = number;
            advance();
            if (token != SEMICOLON) {
                return false;
            }
            advance();
            return true;
        }

        private void advance() {
            while (at < length && bytes[at] == ' ') {
                at++;
            }
            start = at;
            if (at >= length) {
                token = END;
            } else if (bytes[at] == ';') {
                at++;
                token = SEMICOLON;
            } else if (isDigit(bytes[at])) {
                token = numberToken();
            } else if (isLetter(bytes[at])) {
                token = wordToken();
            } else {
                token = WRONG;
            }
        }

        private int numberToken() {
            number = 0;
            while (at < length && isDigit(bytes[at])) {
                // A hundred stands for all that is too great, so that no run of digits wraps around.
                number = Math.min(100, number * 10 + bytes[at] - '0');
                at++;
            }
            boolean zeroAhead = bytes[start] == '0' && at - start > 1;
            return zeroAhead || number > 99 ? WRONG : NUMBER;
        }

        private int wordToken() {
            while (at < length && isLetter(bytes[at])) {
                at++;
            }
            if (wordIs("tale")) {
                return TALE;
            }
            if (wordIs("look")) {
                return LOOK;
            }
            if (wordIs("some")) {
                return SOME;
            }
            if (wordIs("light")) {
                return LIGHT;
            }
            return wordIs("heavy") ? HEAVY : WRONG;
        }

        private boolean wordIs(String word) {
            if (at - start != word.length()) {
                return false;
            }
            for (int i = 0; i < word.length(); i++) {
                if (bytes[start + i] != word.charAt(i)) {
                    return false;
                }
            }
            return true;
        }

        private static boolean isDigit(int b) {
            return b >= '0' && b <= '9';
        }

        private static boolean isLetter(int b) {
            return b >= 'a' && b <= 'z';
        }
    }

    /** Coins of each weight of each person; those of people who are not there are 0. */
    private static final class Purses {
        private final int[] cells = new int[MOST_PEOPLE * WEIGHTS];

        int held(int p, int w) {
            return cells[p * WEIGHTS + w];
        }

        void put(int p, int w, int n) {
            cells[p * WEIGHTS + w] = n;
        }

        void empty() {
            for (int i = 0; i < cells.length; i++) {
                cells[i] = 0;
            }
        }

        void copyFrom(Purses other) {
            System.arraycopy(other.cells, 0, cells, 0, cells.length);
        }

        int coinsOf(int p) {
            return coinsAbove(p, -1);
        }

        int coinsAbove(int p, int weight) {
            int coins = 0;
            for (int w = weight + 1; w < WEIGHTS; w++) {
                coins += held(p, w);
            }
            return coins;
        }

        int ofWeight(int w) {
            int coins = 0;
            for (int p = 0; p < MOST_PEOPLE; p++) {
                coins += held(p, w);
            }
            return coins;
        }

        int allCoins() {
            int coins = 0;
            for (int p = 0; p < MOST_PEOPLE; p++) {
                coins += coinsOf(p);
            }
            return coins;
        }

        int allGrains() {
            int grains = 0;
            for (int w = 0; w < WEIGHTS; w++) {
                grains += ofWeight(w) * (WHOLE - w);
            }
            return grains;
        }

        /** Whether a coin went over: a purse that is full of its weight takes none. */
        boolean move(int from, int to, int w) {
            if (held(to, w) >= MOST_COINS) {
                return false;
            }
            put(from, w, held(from, w) - 1);
            put(to, w, held(to, w) + 1);
            return true;
        }

        void loseGrain() {
            for (int p = 0; p < MOST_PEOPLE; p++) {
                int lightest = held(p, LIGHTEST) + held(p, LIGHTEST - 1);
                put(p, LIGHTEST, Math.min(MOST_COINS, lightest));
                for (int w = LIGHTEST - 1; w > 0; w--) {
                    put(p, w, held(p, w - 1));
                }
                put(p, 0, 0);
            }
        }

        /** Whether the mean is so many tenths of a grain at most; there are coins. */
        boolean isShabby(int tenths) {
            return allGrains() * 10 <= tenths * allCoins();
        }
    }

    /** The tunes within their bounds. */
    private static final class Tunes {
        private static final int[] LEAST = {0, 0, 0, 0, 0, 1};
        private static final int[] MOST = {9, 99, 99, 10, 20, 99};

        private final int[] value = {2, 5, 20, 1, 1, 20};

        int of(int what) {
            return value[what];
        }

        int set(int what, int v) {
            if (what < 0 || what >= value.length || v < LEAST[what] || v > MOST[what]) {
                return BAD;
            }
            int was = value[what];
            value[what] = v;
            return was;
        }
    }

    /** The latest meeting, and how many there were. */
    private static final class Meeting {
        int payer = NONE;
        int taker = NONE;
        int looked = NONE;
        int paid = NONE;
        int number;

        void forget() {
            payer = NONE;
            taker = NONE;
            looked = NONE;
            paid = NONE;
            number = 0;
        }

        void note(int byWhom, int toWhom, int whetherLooked, int weight) {
            payer = byWhom;
            taker = toWhom;
            looked = whetherLooked;
            paid = weight;
            number++;
        }
    }

    /** A day of n takers; gains are kept as fractions whose lower numbers are above 0. */
    private static final class Day {
        private final int[] ofWeight = new int[WEIGHTS];
        private final int[] heaviest = new int[MOST_TAKERS + 1];
        private final int[] lightest = new int[MOST_TAKERS + 1];
        private int n;
        private int looking;

        /** There are at least as many coins as takers. */
        void lay(Purses purses, int takers, int costOfLooking) {
            n = takers;
            looking = costOfLooking;
            for (int w = 0; w < WEIGHTS; w++) {
                ofWeight[w] = purses.ofWeight(w);
            }
            sumGrains(heaviest, 0, 1);
            sumGrains(lightest, LIGHTEST, -1);
        }

        /** sums[i] becomes the grains of i coins, taken weight by weight from 'from' on. */
        private void sumGrains(int[] sums, int from, int step) {
            sums[0] = 0;
            int taken = 0;
            for (int i = 0; i < WEIGHTS; i++) {
                int w = from + step * i;
                for (int c = 0; c < ofWeight[w] && taken < n; c++) {
                    taken++;
                    sums[taken] = sums[taken - 1] + WHOLE - w;
                }
            }
        }

        long taleUpper(int k) {
            return lightest[n - k];
        }

        long taleLower(int k) {
            return n - k;
        }

        long lookUpper(int k) {
            return 10 * heaviest[k] - looking * k;
        }

        long lookLower(int k) {
            return 10 * k;
        }

        /** How look of k + 1 stands to tale of k (k below n): above 0, if looking is better. */
        private long lookOverTale(int k) {
            return lookUpper(k + 1) * taleLower(k) - taleUpper(k) * lookLower(k + 1);
        }

        private boolean goesUp(int k) {
            return k < n && lookOverTale(k) > 0;
        }

        private boolean goesDown(int k) {
            return k > 0 && lookOverTale(k - 1) < 0;
        }

        int allThatRest() {
            int resting = 0;
            for (int k = 0; k <= n; k++) {
                if (!goesUp(k) && !goesDown(k)) {
                    resting |= 1 << k;
                }
            }
            return resting;
        }

        int endFrom(int k) {
            int here = k;
            // What went up from k can't come down to it again, so n steps are enough.
            for (int i = 0; i < n; i++) {
                if (goesUp(here)) {
                    here++;
                } else if (goesDown(here)) {
                    here--;
                }
            }
            return here;
        }

        int leastThatEndsInAll() {
            for (int k = 0; k <= n; k++) {
                if (endFrom(k) == n) {
                    return k;
                }
            }
            return NONE;
        }

        int weightsLeftOut(int k) {
            int come = weightsOf(k, 0, 1) | weightsOf(n - k, LIGHTEST, -1);
            return weightsOf(Integer.MAX_VALUE, 0, 1) & ~come;
        }

        /** The weights, as bits, of so many coins taken weight by weight from 'from' on. */
        private int weightsOf(int coins, int from, int step) {
            int left = coins;
            int bits = 0;
            for (int i = 0; i < WEIGHTS; i++) {
                int w = from + step * i;
                if (left > 0 && ofWeight[w] > 0) {
                    bits |= 1 << w;
                    left -= Math.min(left, ofWeight[w]);
                }
            }
            return bits;
        }
    }

    /** The laws: of each its cost, what it takes from looking, what it puts to the fine. */
    private static final class Laws {
        static final int COST = 0, LESS = 1, MORE = 2;
        private static final int LAWS = 9, NUMBERS = 3, MOST = 99;

        private final int[] value = new int[LAWS * NUMBERS];

        int set(int k, int what, int v) {
            if (k < 0 || k >= LAWS || what < 0 || what >= NUMBERS || v < 0 || v > MOST) {
                return BAD;
            }
            int was = value[k * NUMBERS + what];
            value[k * NUMBERS + what] = v;
            return was;
        }

        int sumOf(int set, int what) {
            int sum = 0;
            for (int k = 0; k < LAWS; k++) {
                if ((set >> k & 1) == 1) {
                    sum += value[k * NUMBERS + what];
                }
            }
            return sum;
        }

        /** The least set of least cost that takes and puts so much at least; NONE. */
        int cheapestSet(int less, int more) {
            int best = NONE;
            int leastCost = Integer.MAX_VALUE;
            for (int set = 0; set < 1 << LAWS; set++) {
                int cost = sumOf(set, COST);
                if (cost < leastCost && sumOf(set, LESS) >= less && sumOf(set, MORE) >= more) {
                    best = set;
                    leastCost = cost;
                }
            }
            return best;
        }
    }

    /** What keep() keeps. */
    private static final class Image {
        final Purses purses = new Purses();
        int lot;
        int year;
        boolean kept;
    }
}
