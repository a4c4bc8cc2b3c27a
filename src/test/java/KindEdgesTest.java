/** Promises 27 to 31, and the terms they use: the last that is taken, the first that is refused. */
public final class KindEdgesTest {
    private static final long[] TRACE_OF_KIND = {1, 11, 101, 1101, 10001, 110001, 1000001};

    public static void main(String[] args) {
        labourRefused();
        labourOfAnEmptyPurse();
        labourOfTheFullestPurse();
        aboveTheLimit();
        tenthsRoundedDown();
        noTenthsOfOthers();
        labourByEachT();
        theTrace();
        imagesRefused();
        noneWasKept();
        imagesOfNobody();
        whatAnImageKeeps();
        imagesKeepNothingElse();
        imagesAreApart();
        countsRefused();
        countsAtTheirEnds();
        meetingsSinceTheTown();
        questionsChangeNothing();
        Check.finish();
    }

    private static long[] allKinds(LightCoins x, int p) {
        long[] labours = new long[7];
        for (int kind = 0; kind <= 6; kind++) {
            labours[kind] = x.labour(kind, p);
        }
        return labours;
    }

    /** A refused call asks no body: THE TRACE stays, too. */
    private static void labourRefused() {
        Check.bounds("27 kind", Check::busy, (x, kind) -> x.labour(kind, 2), 0, 6, LightCoins.BAD);
        for (int kind = 0; kind <= 6; kind++) {
            int of = kind;
            Check.bounds("27 p of kind " + kind, Check::busy, (x, p) -> x.labour(of, p), 0, 2, LightCoins.BAD);
            Check.changesNothing("27 nobody", LightCoins::new, x -> x.labour(of, 0), LightCoins.BAD);
        }
        Check.changesNothing("27 both are wrong", Check::busy, x -> x.labour(7, 3), LightCoins.BAD);
    }

    private static void labourOfAnEmptyPurse() {
        Check.row("27 tale", allKinds(Check.townOf("tale light 0;"), 0), 0, 1, 0, 0, 0, 0, 0);
        Check.row("27 some", allKinds(Check.townOf("some 10 heavy 8;"), 0), 0, 1, 0, 0, 0, 0, 8);
    }

    private static void labourOfTheFullestPurse() {
        LightCoins x = Check.townOf("tale light 0;".repeat(7) + "some 10 light 8;");
        for (int w = 0; w <= 9; w++) {
            x.purse(7, w, 99);
        }
        x.tune(0, 0);
        x.tune(1, 99);
        int look = 990 + 99 * 891;
        Check.row("27 all that one can have", allKinds(x, 7), 990, 991, look, look, 891, 1782, 998);
        Check.row("27 the others have none", allKinds(x, 6), 0, 1, 0, 0, 0, 0, 0);
        LightCoins whole = Check.townOf("tale light 0;");
        whole.purse(0, 0, 99);
        Check.row("27 whole coins alone", allKinds(whole, 0), 99, 100, 99, 0, 0, 0, 99);
    }

    /** "COINS of WEIGHT above LIMIT". */
    private static void aboveTheLimit() {
        for (int limit = 0; limit <= 9; limit++) {
            for (int w = 0; w <= 9; w++) {
                LightCoins x = Check.townOf("look light 0;");
                x.tune(0, limit);
                x.purse(0, w, 4);
                Check.due("27 weight " + w + ", limit " + limit, x.labour(2, 0), w > limit ? 4 + 5 * 4 : 4);
            }
        }
        LightCoins free = Check.townOf("look light 0;");
        free.tune(1, 0);
        free.purse(0, 9, 4);
        Check.due("27 looking costs nothing", free.labour(2, 0), 4);
    }

    /** "a tenth of X times up, rounded down". */
    private static void tenthsRoundedDown() {
        for (int tenths = 0; tenths <= 10; tenths++) {
            LightCoins x = Check.townOf("some " + tenths + " light 0;");
            for (int coins : new int[] {1, 9, 10, 11, 19, 99}) {
                x.purse(0, 0, coins);
                Check.due("27 X of " + tenths + ", " + coins + " coins", x.labour(3, 0), tenths * coins / 10);
            }
        }
    }

    /** "(X is 0 of others than "some".)" */
    private static void noTenthsOfOthers() {
        LightCoins x = Check.townOf("some 9 light 0;some 9 light 0;");
        Check.read(x, "tale light 0;look light 0;");
        x.purse(0, 9, 99);
        x.purse(1, 9, 99);
        Check.row("27 X of others is 0", new long[] {x.labour(3, 0), x.labour(3, 1), x.labour(2, 0), x.labour(2, 1)}, 0, 0, 594, 594);
    }

    private static void labourByEachT() {
        for (int t = 0; t <= 8; t++) {
            LightCoins x = Check.townOf("tale light " + t + ";");
            x.purse(0, 4, 3);
            Check.due("27 T of " + t, x.labour(6, 0), 3 + t);
        }
    }

    /** Each body as often as it is asked: the KIND's own and those above it. */
    private static void theTrace() {
        for (int kind = 0; kind <= 6; kind++) {
            LightCoins x = Check.townOf("some 5 light 3;");
            Check.due("31 nothing was asked", x.trace(), 0);
            x.labour(kind, 0);
            Check.due("31 kind " + kind, x.trace(), TRACE_OF_KIND[kind]);
            x.trace();
            Check.due("31 to ask for it adds nothing", x.trace(), TRACE_OF_KIND[kind]);
        }
        LightCoins x = Check.townOf("tale light 0;");
        for (int i = 0; i < 500; i++) {
            x.labour(6, 0);
        }
        Check.due("31 500 times", x.trace(), 500000500L);
    }

    /** "IMAGES 0, 1". */
    private static void imagesRefused() {
        Check.bounds("28 image", Check::busy, (x, image) -> x.keep(image), 0, 1, LightCoins.BAD);
        Check.bounds("29 image", Check::busy, (x, image) -> x.back(image), 0, 1, LightCoins.BAD);
        Check.changesNothing("29 BAD where none was kept", LightCoins::new, x -> x.back(2), LightCoins.BAD);
    }

    /** "STATE: none was kept." */
    private static void noneWasKept() {
        for (int image = 0; image <= 1; image++) {
            int of = image;
            Check.changesNothing("29 of a new object", LightCoins::new, x -> x.back(of), LightCoins.STATE);
            Check.changesNothing("29 only the other was kept", () -> onlyKept(1 - of), x -> x.back(of), LightCoins.STATE);
            Check.changesNothing("29 gone with the town", KindEdgesTest::townAnew, x -> x.back(of), LightCoins.STATE);
            Check.due("29 it was kept", onlyKept(of).back(of), 7);
        }
        LightCoins x = townAnew();
        Check.row("28, 29 kept in the new town", new long[] {x.keep(1), x.back(1), x.back(0)}, 5, 5, -2);
    }

    private static LightCoins onlyKept(int image) {
        LightCoins x = Check.townOf("tale light 0;tale light 0;");
        x.purse(1, 9, 7);
        x.keep(image);
        x.purse(0, 0, 3);
        return x;
    }

    private static LightCoins townAnew() {
        LightCoins x = Check.busy();
        x.town();
        x.purse(0, 2, 5);
        return x;
    }

    private static void imagesOfNobody() {
        LightCoins x = new LightCoins();
        Check.row("28 no coins", new long[] {x.keep(0), x.keep(1), x.back(0), x.back(1)}, 0, 0, 0, 0);
        LightCoins full = Check.townOf("tale light 0;".repeat(8));
        for (int p = 0; p < 8; p++) {
            for (int w = 0; w <= 9; w++) {
                full.purse(p, w, 99);
            }
        }
        Check.due("28 all coins there can be", full.keep(0), 7920);
        for (int p = 0; p < 8; p++) {
            full.purse(p, 9, 0);
        }
        Check.row("29 all of them again", new long[] {full.count(1), full.back(0), full.coins(7, 9), full.coins(0, 9)}, 7128, 7920, 99, 99);
    }

    /** "IMAGES 0, 1 keep PURSES, THE LOT, YEARS". */
    private static void whatAnImageKeeps() {
        LightCoins x = Check.townOf("tale light 0;tale light 0;");
        x.purse(1, 9, 99);
        x.lot(Integer.MIN_VALUE);
        Check.due("28 in the year 0", x.keep(0), 99);
        for (int i = 0; i < 20; i++) {
            x.year(50);
        }
        x.purse(1, 9, 1);
        x.purse(0, 0, 1);
        x.lot(5);
        Check.due("28 in the year 1000", x.keep(1), 2);
        Check.row("29 the year 0", new long[] {x.back(0), x.count(2), x.coins(1, 9), x.coins(0, 0), x.lot(9)}, 99, 0, 99, 0, Integer.MIN_VALUE);
        Check.due("19 years can go by again", x.year(1), 1);
        Check.row("29 the year 1000", new long[] {x.back(1), x.count(2), x.coins(1, 9), x.coins(0, 0), x.lot(9)}, 2, 1000, 1, 1, 5);
        Check.due("19 beyond", x.year(1), LightCoins.STATE);
    }

    /** "; nothing else." */
    private static void imagesKeepNothingElse() {
        LightCoins x = Check.townOf("tale light 0;tale light 0;");
        x.purse(0, 0, 9);
        x.purse(1, 0, 9);
        x.keep(0);
        x.type('t', 1);
        x.tune(0, 7);
        x.law(3, 2, 44);
        x.labour(0, 0);
        x.run(5);
        long[] latest = {x.met(0), x.met(1), x.met(2), x.met(3)};
        x.keep(1);
        x.back(0);
        Check.row("29 the latest meeting stays", new long[] {x.met(0), x.met(1), x.met(2), x.met(3)}, latest);
        Check.row("29 all else stays", new long[] {x.count(3), x.count(4), x.trace(), x.tune(0, 2), x.law(3, 2, 0)}, 1, 5, 1, 7, 44);
        Check.due("29 the other image stays", x.back(1), 18);
        Check.due("29 the lot at first", x.back(0) + x.lot(0), 19);
    }

    private static void imagesAreApart() {
        LightCoins x = Check.townOf("tale light 0;");
        x.purse(0, 3, 1);
        x.keep(0);
        x.purse(0, 3, 2);
        x.keep(1);
        x.purse(0, 3, 3);
        Check.row("29 each its own", new long[] {x.back(0), x.coins(0, 3), x.back(1), x.coins(0, 3), x.back(0)}, 1, 1, 2, 2, 1);
        x.purse(0, 3, 4);
        Check.row("29 what comes later is not in it", new long[] {x.back(0), x.coins(0, 3)}, 1, 1);
        x.purse(0, 3, 5);
        Check.row("28 kept over", new long[] {x.keep(0), x.purse(0, 3, 6), x.back(0), x.back(1)}, 5, 5, 5, 2);
        Check.changesNothing("28 keep changes no more than the image", KindEdgesTest::justKept, y -> y.keep(0), 4);
    }

    private static LightCoins justKept() {
        LightCoins x = Check.townOf("tale light 0;");
        x.purse(0, 6, 4);
        x.keep(0);
        return x;
    }

    private static void countsRefused() {
        Check.bounds("30 what", Check::busy, (x, what) -> x.count(what), 0, 5, LightCoins.BAD);
        Check.bounds("30 what of a new object", LightCoins::new, (x, what) -> x.count(what), 0, 5, LightCoins.BAD);
    }

    private static void countsAtTheirEnds() {
        LightCoins x = new LightCoins();
        Check.row("30 at first", new long[] {x.count(0), x.count(1), x.count(2), x.count(3), x.count(4), x.count(5)}, 0, 0, 0, 0, 0, 0);
        Check.read(x, "tale light 0;".repeat(8));
        for (int p = 0; p < 8; p++) {
            for (int w = 0; w <= 9; w++) {
                x.purse(p, w, 99);
            }
        }
        Check.typeWhole(x, " ".repeat(300));
        Check.row("30 the most", new long[] {x.count(0), x.count(1), x.count(3), x.count(5)}, 8, 7920, 300, 43560);
        // "what is there is 10 less it".
        for (int w = 0; w <= 9; w++) {
            LightCoins one = Check.townOf("tale light 0;");
            one.purse(0, w, 1);
            Check.row("30 one of weight " + w, new long[] {one.count(1), one.count(5)}, 1, 10 - w);
        }
    }

    /** "4 MEETINGS since THE TOWN was read": those in which nothing was paid, too. */
    private static void meetingsSinceTheTown() {
        LightCoins x = Check.townOf("tale light 0;tale light 0;");
        x.meet();
        x.run(500);
        Check.due("30 501", x.count(4), 501);
        x.run(0);
        x.run(501);
        Check.due("30 refused runs are none", x.count(4), 501);
        x.type('!', 1);
        x.town();
        Check.due("30 a fault is no town", x.count(4), 501);
        x.clear();
        x.town();
        Check.due("30 since the new town", x.count(4), 0);
        x.meet();
        Check.due("30 a refused meeting is none", x.count(4), 0);
    }

    /** Calls that only tell: whatever they answer, nothing is another then. */
    private static void questionsChangeNothing() {
        Check.Call[] questions = {x -> x.person(1, 4), x -> x.coins(-1, 9), x -> x.met(3), x -> x.gain(9, 4, 1, 0), x -> x.rests(30), x -> x.goes(30, 15),
            x -> x.tip(30), x -> x.out(5, 2), x -> x.clip(0, 0), x -> x.clip(3, 2), x -> x.mean(1), x -> x.shabby(12), x -> x.changer(0, 7, 1),
            x -> x.cheapest(0, 21, 1), x -> x.first(5, 1), x -> x.seeds(1), x -> x.count(5), x -> x.trace()};
        for (int i = 0; i < questions.length; i++) {
            Check.changesNothing("question " + i, Check::busy, questions[i], questions[i].on(Check.busy()));
        }
    }
}
