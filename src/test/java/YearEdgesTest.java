/** Promises 19 to 26, and the terms they use: the last that is taken, the first that is refused. */
public final class YearEdgesTest {
    public static void main(String[] args) {
        yearsOf1To50();
        beyond1000();
        yearsThatWearDivides();
        weight9StaysAsItIs();
        eachMissesOneMore();
        pursesKeep99();
        means();
        shabbyRefused();
        shabbyAtMost();
        shabbyFromNow();
        shabbyFarthest();
        shabbyChangesNothing();
        changers();
        changersHold();
        laws();
        cheapestRefused();
        cheapestAtMostAndAtLeast();
        cheapestOfSeveral();
        allLaws();
        firstRefused();
        firstDays();
        seedsRefused();
        seeds();
        Check.finish();
    }

    private static LightCoins oneCoin(int w, int wear) {
        LightCoins x = Check.townOf("tale light 0;");
        x.purse(0, w, 1);
        x.tune(5, wear);
        return x;
    }

    private static void toYear(LightCoins x, int year) {
        while (x.count(2) < year) {
            x.year(Math.min(50, year - x.count(2)));
        }
    }

    private static LightCoins inYear(int year) {
        LightCoins x = oneCoin(3, 99);
        toYear(x, year);
        return x;
    }

    /** "n YEARS go by (1 .. 50)". */
    private static void yearsOf1To50() {
        Check.bounds("19 n", Check::busy, (x, n) -> x.year(n), 1, 50, LightCoins.BAD);
        Check.row("19 the year", new long[] {new LightCoins().count(2), new LightCoins().year(1), new LightCoins().year(50)}, 0, 1, 50);
    }

    /** "STATE: beyond 1000." */
    private static void beyond1000() {
        int[][] last = {{999, 1}, {950, 50}, {990, 10}};
        for (int[] l : last) {
            Check.due("19 the year 1000", inYear(l[0]).year(l[1]), 1000);
        }
        int[][] beyond = {{1000, 1}, {1000, 50}, {999, 2}, {951, 50}};
        for (int[] b : beyond) {
            Check.changesNothing("19 " + b[0] + " and " + b[1], () -> inYear(b[0]), x -> x.year(b[1]), LightCoins.STATE);
        }
        Check.changesNothing("19 BAD ahead of STATE", () -> inYear(1000), x -> x.year(0), LightCoins.BAD);
        Check.changesNothing("19 BAD ahead of STATE", () -> inYear(1000), x -> x.year(51), LightCoins.BAD);
        LightCoins x = inYear(1000);
        x.town();
        Check.due("19 a town anew leaves the year", x.year(1), LightCoins.STATE);
    }

    /** "in each that WEAR divides": WEAR 1 .. 99, by the YEAR itself, not by how long ago the last was. */
    private static void yearsThatWearDivides() {
        LightCoins each = oneCoin(0, 1);
        for (int w = 1; w <= 9; w++) {
            each.year(1);
            Check.due("19 each year", each.coins(0, w), 1);
        }
        for (int wear : new int[] {2, 20, 50, 98, 99}) {
            LightCoins x = oneCoin(0, wear);
            toYear(x, wear - 1);
            Check.due("19 the year before", x.coins(0, 0), 1);
            x.year(1);
            Check.row("19 the year", new long[] {x.coins(0, 0), x.coins(0, 1)}, 0, 1);
            toYear(x, 2 * wear - 1);
            Check.due("19 the year before the next", x.coins(0, 1), 1);
            x.year(1);
            Check.row("19 the next", new long[] {x.coins(0, 1), x.coins(0, 2)}, 0, 1);
        }
        LightCoins x = oneCoin(0, 7);
        x.year(50);
        Check.due("19 7 14 21 28 35 42 49", x.coins(0, 7), 1);
        LightCoins y = oneCoin(0, 99);
        y.year(11);
        y.tune(5, 6);
        y.year(1);
        Check.due("19 6 divides 12", y.coins(0, 1), 1);
        y.tune(5, 12);
        Check.due("19 a tune itself wears nothing", y.coins(0, 1), 1);
        y.year(11);
        Check.due("19 not 13 to 23", y.coins(0, 1), 1);
        LightCoins last = oneCoin(0, 50);
        toYear(last, 50);
        last.purse(0, 1, 0);
        toYear(last, 999);
        last.purse(0, 0, 1);
        last.year(1);
        Check.due("19 in the year 1000, too", last.coins(0, 1), 1);
    }

    /** "all COINS below WEIGHT 9". */
    private static void weight9StaysAsItIs() {
        LightCoins x = oneCoin(9, 1);
        x.year(50);
        Check.row("19 still there", new long[] {x.coins(0, 9), x.count(1), x.count(5)}, 1, 1, 1);
        LightCoins y = oneCoin(8, 1);
        y.year(1);
        Check.row("19 from 8 to 9", new long[] {y.coins(0, 8), y.coins(0, 9)}, 0, 1);
    }

    /** One grain in one year, not as many as there are weights. */
    private static void eachMissesOneMore() {
        LightCoins x = Check.townOf("tale light 0;tale light 0;");
        x.tune(5, 1);
        for (int w = 0; w <= 9; w++) {
            x.purse(1, w, 10 + w);
        }
        x.year(1);
        for (int w = 0; w <= 9; w++) {
            Check.due("19 weight " + w, x.coins(1, w), w == 0 ? 0 : w == 9 ? 18 + 19 : 9 + w);
        }
        Check.row("19 none is lost", new long[] {x.count(1), x.person(0, 4)}, 145, 0);
    }

    /** "PURSES that would have more than 99 of one keep 99 of it, the others are lost". */
    private static void pursesKeep99() {
        int[][] cases = {{98, 0, 98}, {49, 50, 99}, {50, 50, 99}, {99, 0, 99}, {0, 99, 99}, {1, 99, 99}, {99, 1, 99}, {99, 99, 99}};
        for (int[] c : cases) {
            LightCoins x = Check.townOf("tale light 0;tale light 0;");
            x.tune(5, 1);
            x.purse(0, 8, c[0]);
            x.purse(0, 9, c[1]);
            x.purse(1, 8, 60);
            x.purse(1, 9, 30);
            x.year(1);
            Check.row("19 " + c[0] + " and " + c[1], new long[] {x.coins(0, 8), x.coins(0, 9), x.count(1)}, 0, c[2], c[2] + 90);
            Check.due("19 each purse by itself", x.coins(1, 9), 90);
        }
        LightCoins x = Check.townOf("tale light 0;");
        x.tune(5, 1);
        for (int w = 0; w <= 9; w++) {
            x.purse(0, w, 99);
        }
        x.year(1);
        Check.row("19 only of weight 9", new long[] {x.count(1), x.coins(0, 1), x.coins(0, 8), x.coins(0, 9)}, 891, 99, 99, 99);
        x.year(8);
        Check.row("19 after nine years", new long[] {x.count(1), x.coins(0, 9)}, 99, 99);
    }

    /** "NO: BAD, or no COINS." */
    private static void means() {
        Check.bounds("20 what", Check::busy, (x, what) -> x.mean(what), 0, 1, LightCoins.NO);
        Check.changesNothing("20 nobody", LightCoins::new, x -> x.mean(0), LightCoins.NO);
        Check.changesNothing("20 no coins", () -> Check.townOf("tale light 0;"), x -> x.mean(1), LightCoins.NO);
        for (int w = 0; w <= 9; w++) {
            LightCoins x = oneCoin(w, 1);
            Check.row("20 one of weight " + w, new long[] {x.mean(0), x.mean(1)}, 10 - w, 1);
            x.purse(0, w, 0);
            Check.row("20 none again", new long[] {x.mean(0), x.mean(1)}, LightCoins.NO, LightCoins.NO);
        }
        LightCoins x = Check.townOf("tale light 0;".repeat(8));
        for (int p = 0; p < 8; p++) {
            for (int w = 0; w <= 9; w++) {
                x.purse(p, w, 99);
            }
        }
        Check.row("20 all coins there can be", new long[] {x.mean(0), x.mean(1)}, 11, 2);
    }

    /** "m tenths (0 .. 100)"; "NONE (also without COINS)". */
    private static void shabbyRefused() {
        Check.bounds("21 m", Check::busy, (x, m) -> x.shabby(m), 0, 100, LightCoins.BAD);
        Check.bounds("21 m of nobody", LightCoins::new, (x, m) -> x.shabby(m), 0, 100, LightCoins.BAD);
        LightCoins x = Check.townOf("tale light 0;");
        for (int m : new int[] {0, 9, 10, 50, 100}) {
            Check.due("21 no coins, " + m, x.shabby(m), LightCoins.NONE);
            Check.due("21 nobody, " + m, new LightCoins().shabby(m), LightCoins.NONE);
        }
    }

    /** "till MEAN is m tenths at most". */
    private static void shabbyAtMost() {
        for (int w = 0; w <= 9; w++) {
            int tenths = 100 - 10 * w;
            LightCoins x = oneCoin(w, 1);
            Check.row("21 weight " + w, new long[] {x.shabby(100), x.shabby(tenths), x.shabby(tenths - 1), x.shabby(10), x.shabby(9), x.shabby(0)},
                0, 0, w == 9 ? LightCoins.NONE : 1, 9 - w, LightCoins.NONE, LightCoins.NONE);
        }
        // 10 and 1: 55 tenths; 9 and 1: 50.
        LightCoins x = oneCoin(0, 20);
        x.purse(0, 9, 1);
        Check.row("21 between", new long[] {x.shabby(55), x.shabby(54), x.shabby(50), x.shabby(49), x.shabby(11), x.shabby(10)}, 0, 20, 20, 40, 180, 180);
        // A third: 10 1 1 is 4, 9 1 1 is 36 tenths and two thirds.
        x.purse(0, 9, 2);
        Check.row("21 not rounded", new long[] {x.shabby(40), x.shabby(39), x.shabby(37), x.shabby(36)}, 0, 20, 20, 40);
    }

    /** "the fewest years from now": the YEAR it is counts. */
    private static void shabbyFromNow() {
        LightCoins x = oneCoin(0, 20);
        for (int year = 0; year < 20; year++) {
            Check.due("21 in the year " + year, x.shabby(90), 20 - year);
            x.year(1);
        }
        Check.row("21 in the year 20 it is worn", new long[] {x.shabby(90), x.shabby(89)}, 0, 20);
        LightCoins y = oneCoin(9, 10);
        toYear(y, 1000);
        y.purse(0, 9, 0);
        y.purse(0, 0, 1);
        Check.row("21 from the year 1000", new long[] {y.shabby(100), y.shabby(90), y.shabby(10), y.shabby(9)}, 0, 10, 90, LightCoins.NONE);
        y.tune(5, 99);
        Check.due("21 1089 is the next that 99 divides", y.shabby(90), 89);
    }

    /** Within 1000 years all that can come has come: 891 are the most, for the slowest wear. */
    private static void shabbyFarthest() {
        LightCoins x = oneCoin(0, 99);
        Check.row("21 nine times 99", new long[] {x.shabby(10), x.shabby(19), x.shabby(20), x.shabby(9)}, 891, 891, 792, LightCoins.NONE);
        toYear(x, 98);
        Check.due("21 the year before", x.shabby(10), 793);
        LightCoins y = oneCoin(0, 99);
        toYear(y, 990);
        y.purse(0, 9, 0);
        y.purse(0, 0, 1);
        Check.due("21 the year that it wore in", y.shabby(10), 891);
    }

    /** "(.. PURSES are not changed.)": also not where coins would be lost. */
    private static void shabbyChangesNothing() {
        for (int m : new int[] {0, 10, 30, 60, 100}) {
            Check.changesNothing("21 " + m, YearEdgesTest::fullPurses, x -> x.shabby(m), fullPurses().shabby(m));
        }
        // Each year 99 of weight 9 are lost: means of 55, 50, 45 tenths. Were they not, 46 would come next.
        LightCoins x = fullPurses();
        Check.row("21 the lost count no more", new long[] {x.shabby(55), x.shabby(54), x.shabby(50), x.shabby(49), x.shabby(45)}, 0, 1, 1, 2, 2);
    }

    private static LightCoins fullPurses() {
        LightCoins x = Check.townOf("tale light 0;");
        x.tune(5, 1);
        for (int w = 0; w <= 9; w++) {
            x.purse(0, w, 99);
        }
        return x;
    }

    /** "a CUT of c hundredths (0 .. 99)". */
    private static void changers() {
        for (int what = 0; what <= 1; what++) {
            int of = what;
            Check.bounds("22 p, what = " + what, Check::busy, (x, p) -> x.changer(p, 10, of), 0, 2, LightCoins.BAD);
            Check.bounds("22 c, what = " + what, Check::busy, (x, c) -> x.changer(1, c, of), 0, 99, LightCoins.BAD);
        }
        Check.bounds("22 what", Check::busy, (x, what) -> x.changer(1, 10, what), 0, 1, LightCoins.BAD);
        for (int c : new int[] {0, 1, 50, 99}) {
            Check.changesNothing("22 purses are not changed", Check::busy, x -> x.changer(2, c, 0), 10);
        }
    }

    /** "10 for each COIN of WEIGHT LIMIT at most, what is there for others"; "of several the greatest" x, "(10: none)". */
    private static void changersHold() {
        for (int limit = 0; limit <= 9; limit++) {
            for (int w = 0; w <= 9; w++) {
                LightCoins x = Check.townOf("tale light 0;tale light 0;");
                x.tune(0, limit);
                x.purse(1, w, 10);
                // Ten coins melt to as many whole ones as each has grains: held as high above the limit.
                Check.row("22 ten of weight " + w + ", limit " + limit, new long[] {x.changer(1, 0, 0), x.changer(1, 0, 1), x.changer(1, 99, 0), x.changer(1, 99, 1)},
                    10, w <= limit ? 100 : 10 * (10 - w), 10, w <= limit ? 100 : 10 * (10 - w));
            }
        }
        LightCoins empty = Check.townOf("tale light 0;");
        Check.row("22 an empty purse", new long[] {empty.changer(0, 0, 0), empty.changer(0, 0, 1), empty.changer(0, 99, 0), empty.changer(0, 99, 1)}, 10, 0, 10, 0);
        LightCoins eight = Check.townOf("tale light 0;".repeat(8));
        eight.purse(7, 9, 99);
        Check.row("22 person 7", new long[] {eight.changer(7, 0, 0), eight.changer(7, 99, 1), eight.changer(6, 0, 1), eight.changer(8, 0, 1)}, 10, 99, 0, -1);
        LightCoins full = fullPurses();
        Check.row("22 a full purse", new long[] {full.changer(0, 0, 0), full.changer(0, 0, 1)}, 10, 99 * (30 + 28));
    }

    /** "LAWS 0 .. 8 .. (0 .. 99 each; 0 at first)". */
    private static void laws() {
        Check.bounds("23 k", Check::busy, (x, k) -> x.law(k, 1, 5), 0, 8, LightCoins.BAD);
        Check.bounds("23 what", Check::busy, (x, what) -> x.law(1, what, 5), 0, 2, LightCoins.BAD);
        for (int what = 0; what <= 2; what++) {
            int of = what;
            Check.bounds("23 v, what = " + what, Check::busy, (x, v) -> x.law(8, of, v), 0, 99, LightCoins.BAD);
        }
        LightCoins x = new LightCoins();
        for (int k = 0; k <= 8; k++) {
            for (int what = 0; what <= 2; what++) {
                Check.row("23 its own place", new long[] {x.law(k, what, 99), x.law(k, what, 0), x.law(k, what, 10 * k + what)}, 0, 99, 0);
            }
        }
        for (int k = 0; k <= 8; k++) {
            for (int what = 0; what <= 2; what++) {
                Check.due("23 its own place", x.law(k, what, 0), 10 * k + what);
            }
        }
    }

    /** "(a, b 0 .. 999)". */
    private static void cheapestRefused() {
        for (int what = 0; what <= 1; what++) {
            int of = what;
            Check.bounds("24 a, what = " + what, Check::busy, (x, a) -> x.cheapest(a, 20, of), 0, 999, LightCoins.BAD);
            Check.bounds("24 b, what = " + what, Check::busy, (x, b) -> x.cheapest(99, b, of), 0, 999, LightCoins.BAD);
        }
        Check.bounds("24 what", Check::busy, (x, what) -> x.cheapest(99, 20, what), 0, 1, LightCoins.BAD);
        Check.changesNothing("24 none", Check::busy, x -> x.cheapest(0, 999, 0), LightCoins.NONE);
        Check.changesNothing("24 one", Check::busy, x -> x.cheapest(4, 20, 1), 1);
    }

    private static void setLaw(LightCoins x, int k, int cost, int less, int more) {
        x.law(k, 0, cost);
        x.law(k, 1, less);
        x.law(k, 2, more);
    }

    private static long[] cheapest(LightCoins x, int a, int b) {
        return new long[] {x.cheapest(a, b, 0), x.cheapest(a, b, 1)};
    }

    /** "LOOKING is a at most, FINE is b at least". */
    private static void cheapestAtMostAndAtLeast() {
        LightCoins x = new LightCoins();
        Check.row("24 as it is", cheapest(x, 5, 20), 0, 0);
        Check.row("24 LOOKING a tenth too much", cheapest(x, 4, 20), LightCoins.NONE, LightCoins.NONE);
        Check.row("24 FINE one too little", cheapest(x, 5, 21), LightCoins.NONE, LightCoins.NONE);
        Check.row("24 whatever they are", cheapest(x, 999, 0), 0, 0);
        setLaw(x, 4, 7, 3, 8);
        Check.row("24 no law is needed", cheapest(x, 5, 20), 0, 0);
        Check.row("24 just 2", cheapest(x, 2, 20), 7, 16);
        Check.row("24 1 is out of reach", cheapest(x, 1, 20), LightCoins.NONE, LightCoins.NONE);
        Check.row("24 just 28", cheapest(x, 5, 28), 7, 16);
        Check.row("24 29 is out of reach", cheapest(x, 5, 29), LightCoins.NONE, LightCoins.NONE);
        Check.row("24 both", cheapest(x, 2, 28), 7, 16);
        Check.row("24 not the one without the other", cheapest(x, 1, 28), LightCoins.NONE, LightCoins.NONE);
        Check.row("24 not the other without the one", cheapest(x, 2, 29), LightCoins.NONE, LightCoins.NONE);
        setLaw(x, 4, 7, 99, 99);
        Check.row("24 more than all is taken", cheapest(x, 0, 119), 7, 16);
        x.tune(1, 0);
        x.tune(2, 0);
        Check.row("24 nothing to take, nothing wanted", cheapest(x, 0, 0), 0, 0);
        x.tune(1, 99);
        x.tune(2, 99);
        Check.row("24 the highest tunes", cheapest(x, 99, 99), 0, 0);
        Check.row("24 the highest tunes", cheapest(x, 0, 198), 7, 16);
        Check.row("24 one too little", cheapest(x, 0, 199), LightCoins.NONE, LightCoins.NONE);
    }

    /** "of several the least set". */
    private static void cheapestOfSeveral() {
        LightCoins x = new LightCoins();
        setLaw(x, 2, 6, 2, 0);
        setLaw(x, 5, 6, 2, 0);
        setLaw(x, 0, 3, 1, 0);
        setLaw(x, 1, 3, 1, 0);
        Check.row("24 two of 3 or one of 6", cheapest(x, 3, 20), 6, 3);
        setLaw(x, 1, 4, 1, 0);
        Check.row("24 the lesser law", cheapest(x, 3, 20), 6, 4);
        setLaw(x, 5, 5, 2, 0);
        Check.row("24 the cheaper law, though greater", cheapest(x, 3, 20), 5, 32);
        // Laws that cost nothing and bring nothing are left out of the least set.
        setLaw(x, 7, 0, 0, 0);
        Check.row("24 no more than is needed", cheapest(x, 4, 20), 3, 1);
        setLaw(x, 7, 0, 1, 0);
        Check.row("24 one that costs nothing", cheapest(x, 4, 20), 0, 128);
        Check.row("24 none is less than it", cheapest(x, 5, 20), 0, 0);
        // Laws 6 and 7 together are the number 192, less than law 8's 256, though they are two.
        LightCoins y = new LightCoins();
        setLaw(y, 8, 2, 0, 2);
        setLaw(y, 7, 1, 0, 1);
        setLaw(y, 6, 1, 0, 1);
        Check.row("24 sets as numbers", cheapest(y, 5, 22), 2, 192);
    }

    private static void allLaws() {
        LightCoins x = new LightCoins();
        for (int k = 0; k <= 8; k++) {
            setLaw(x, k, 99, 11, 99);
        }
        x.tune(1, 99);
        x.tune(2, 99);
        Check.row("24 all nine by LOOKING", cheapest(x, 0, 0), 891, 511);
        Check.row("24 eight", cheapest(x, 11, 0), 792, 255);
        Check.row("24 all nine by FINE", cheapest(x, 999, 990), 891, 511);
        Check.row("24 more than all nine", cheapest(x, 999, 991), LightCoins.NONE, LightCoins.NONE);
        Check.row("24 999", cheapest(x, 999, 999), LightCoins.NONE, LightCoins.NONE);
    }

    /** "from a set (bits 0 .. 255 ..)". */
    private static void firstRefused() {
        for (int what = 0; what <= 1; what++) {
            int of = what;
            Check.bounds("25 set, what = " + what, Check::busy, (x, set) -> x.first(set, of), 0, 255, LightCoins.BAD);
            Check.bounds("25 set of nobody, what = " + what, LightCoins::new, (x, set) -> x.first(set, of), 0, 255, LightCoins.BAD);
        }
        Check.bounds("25 what", Check::busy, (x, what) -> x.first(1, what), 0, 1, LightCoins.BAD);
    }

    private static LightCoins townOfT(int... others) {
        StringBuilder text = new StringBuilder();
        for (int t : others) {
            text.append("tale light ").append(t).append(';');
        }
        return Check.townOf(text.toString());
    }

    private static long[] firstDay(LightCoins x, int set) {
        return new long[] {x.first(set, 0), x.first(set, 1)};
    }

    /** "those take it, too, of whom T others at least do": T 0 .. 8. */
    private static void firstDays() {
        Check.row("25 T of 0 needs nobody", firstDay(townOfT(0), 0), 1, 1);
        Check.row("25 T of 1 alone", firstDay(townOfT(1), 0), 0, 0);
        Check.row("25 who takes it stays", firstDay(townOfT(8), 1), 1, 0);
        for (int t = 0; t <= 8; t++) {
            LightCoins x = townOfT(t, 8, 8, 8, 8, 8, 8, 8);
            for (int others = 0; others <= 7; others++) {
                int set = (1 << others) - 1 << 1;
                boolean comes = others >= t;
                Check.row("25 T of " + t + ", " + others + " others", firstDay(x, set), comes ? set | 1 : set, comes ? 1 : 0);
            }
        }
        // T of 7 comes with all the others, T of 8 never.
        Check.row("25 T of 7", firstDay(townOfT(7, 7, 7, 7, 7, 7, 7, 7), 127), 255, 1);
        Check.row("25 T of 8", firstDay(townOfT(8, 8, 8, 8, 8, 8, 8, 8), 127), 127, 0);
        Check.row("25 all at once is one round", firstDay(townOfT(0, 0, 0, 0, 0, 0, 0, 0), 0), 255, 1);
        Check.row("25 one by one, eight rounds", firstDay(townOfT(0, 1, 2, 3, 4, 5, 6, 7), 0), 255, 8);
        Check.row("25 from all", firstDay(townOfT(0, 1, 2, 3, 4, 5, 6, 7), 255), 255, 0);
        // Within a round those who come in it don't count yet, whatever their place.
        Check.row("25 a round at a time", firstDay(townOfT(1, 2, 3, 8), 8), 15, 3);
        Check.row("25 a round at a time", firstDay(townOfT(3, 2, 1, 8), 8), 15, 3);
        Check.row("25 those who are not there are left out", firstDay(townOfT(1, 1), 252), 0, 0);
        Check.row("25 those who are not there are left out", firstDay(townOfT(1, 1), 253), 3, 1);
        Check.row("25 nobody is there", firstDay(new LightCoins(), 255), 0, 0);
    }

    private static void seedsRefused() {
        Check.bounds("26 what", Check::busy, (x, what) -> x.seeds(what), 0, 1, LightCoins.BAD);
        Check.bounds("26 what of nobody", LightCoins::new, (x, what) -> x.seeds(what), 0, 1, LightCoins.BAD);
    }

    private static long[] seedsOf(int... others) {
        LightCoins x = townOfT(others);
        return new long[] {x.seeds(0), x.seeds(1)};
    }

    /** "the fewest PEOPLE from whom all come to take it, of several the least set". */
    private static void seeds() {
        Check.row("26 nobody is there", seedsOf(), 0, 0);
        Check.row("26 none is needed", seedsOf(0), 0, 0);
        Check.row("26 one alone", seedsOf(1), 1, 1);
        Check.row("26 one alone who never would", seedsOf(8), 1, 1);
        Check.row("26 none of eight", seedsOf(7, 6, 5, 4, 3, 2, 1, 0), 0, 0);
        Check.row("26 all eight", seedsOf(8, 8, 8, 8, 8, 8, 8, 8), 8, 255);
        Check.row("26 seven of eight", seedsOf(7, 7, 7, 7, 7, 7, 7, 7), 7, 127);
        Check.row("26 the last alone", seedsOf(1, 1, 1, 1, 1, 1, 1, 8), 1, 128);
        Check.row("26 any one: the first", seedsOf(1, 1, 1, 1, 1, 1, 1, 1), 1, 1);
        // {2} is fewer than {0, 1}, though 4 is above 3.
        Check.row("26 fewer ahead of less", seedsOf(1, 2, 8), 1, 4);
    }
}
