/** Promises 13 to 18, and what DAYS and CLIPS are: the last that is taken, the first that is refused. */
public final class DayEdgesTest {
    public static void main(String[] args) {
        takersOf1To30();
        lookersOf0ToN();
        whichAndWhat();
        noMoreThanThereAreCoins();
        badAheadOfState();
        nobodyTakesSo();
        heaviestAndLightest();
        leastTerms();
        restsAtTheEnds();
        equalGainsRest();
        thirtyTakers();
        upAheadOfDown();
        equalGainsStay();
        tips();
        out();
        clipsRefused();
        worthByTheLimit();
        clippedBelow9();
        riskAtItsEnds();
        equalIsNotClipped();
        worthInLeastTerms();
        Check.finish();
    }

    /** One purse after another is filled, weight by weight. */
    private static LightCoins withCoins(int looking, int... ofWeight) {
        LightCoins x = Check.townOf("tale light 0;look heavy 0;");
        x.tune(1, looking);
        for (int w = 0; w < ofWeight.length; w++) {
            int first = ofWeight[w] / 2;
            x.purse(0, w, first);
            x.purse(1, w, ofWeight[w] - first);
        }
        return x;
    }

    private static LightCoins coinsOf5(int coins) {
        return withCoins(5, 0, 0, 0, 0, 0, coins);
    }

    private static long[] gains(LightCoins x, int n, int k, int which) {
        return new long[] {x.gain(n, k, which, 0), x.gain(n, k, which, 1)};
    }

    private static long[] allGoes(LightCoins x, int n) {
        long[] ends = new long[n + 1];
        for (int k = 0; k <= n; k++) {
            ends[k] = x.goes(n, k);
        }
        return ends;
    }

    /** "A DAY of N takers (1 .. 30 ..)". */
    private static void takersOf1To30() {
        Check.bounds("13 n, tale", Check::busy, (x, n) -> x.gain(n, 0, 0, 0), 1, 30, LightCoins.NO);
        Check.bounds("13 n, look", Check::busy, (x, n) -> x.gain(n, 1, 1, 1), 1, 30, LightCoins.NO);
        Check.bounds("14 n", Check::busy, (x, n) -> x.rests(n), 1, 30, LightCoins.BAD);
        Check.bounds("15 n", Check::busy, (x, n) -> x.goes(n, 0), 1, 30, LightCoins.BAD);
        Check.bounds("16 n", Check::busy, (x, n) -> x.tip(n), 1, 30, LightCoins.BAD);
        Check.bounds("17 n", Check::busy, (x, n) -> x.out(n, 0), 1, 30, LightCoins.BAD);
    }

    /** "of whom K look (0 .. N)". */
    private static void lookersOf0ToN() {
        for (int n : new int[] {1, 2, 29, 30}) {
            int takers = n;
            Check.bounds("13 k of " + n + ", tale", Check::busy, (x, k) -> x.gain(takers, k, 0, 0), 0, n - 1, LightCoins.NO);
            Check.bounds("13 k of " + n + ", look", Check::busy, (x, k) -> x.gain(takers, k, 1, 0), 1, n, LightCoins.NO);
            Check.bounds("15 k of " + n, Check::busy, (x, k) -> x.goes(takers, k), 0, n, LightCoins.BAD);
            Check.bounds("17 k of " + n, Check::busy, (x, k) -> x.out(takers, k), 0, n, LightCoins.BAD);
            Check.due("13 one more than all, look", Check.busy().gain(n, n + 1, 1, 0), LightCoins.NO);
            Check.due("13 one less than none, tale", Check.busy().gain(n, -1, 0, 0), LightCoins.NO);
        }
    }

    private static void whichAndWhat() {
        Check.bounds("13 which", Check::busy, (x, which) -> x.gain(4, 2, which, 0), 0, 1, LightCoins.NO);
        Check.bounds("13 what, tale", Check::busy, (x, what) -> x.gain(4, 2, 0, what), 0, 1, LightCoins.NO);
        Check.bounds("13 what, look", Check::busy, (x, what) -> x.gain(4, 2, 1, what), 0, 1, LightCoins.NO);
    }

    /** "no more than there are COINS, else STATE". */
    private static void noMoreThanThereAreCoins() {
        for (int coins : new int[] {0, 1, 2, 29}) {
            int more = coins + 1;
            Check.changesNothing("13 tale of more", () -> coinsOf5(coins), x -> x.gain(more, 0, 0, 0), LightCoins.NO);
            Check.changesNothing("13 look of more", () -> coinsOf5(coins), x -> x.gain(more, more, 1, 1), LightCoins.NO);
            Check.changesNothing("14 more", () -> coinsOf5(coins), x -> x.rests(more), LightCoins.STATE);
            Check.changesNothing("15 more, none look", () -> coinsOf5(coins), x -> x.goes(more, 0), LightCoins.STATE);
            Check.changesNothing("15 more, all look", () -> coinsOf5(coins), x -> x.goes(more, more), LightCoins.STATE);
            Check.changesNothing("16 more", () -> coinsOf5(coins), x -> x.tip(more), LightCoins.STATE);
            Check.changesNothing("17 more", () -> coinsOf5(coins), x -> x.out(more, 1), LightCoins.STATE);
        }
        for (int coins : new int[] {1, 2, 29, 30}) {
            LightCoins x = coinsOf5(coins);
            Check.row("as many as there are, " + coins, new long[] {x.gain(coins, 0, 0, 0), x.gain(coins, coins, 1, 0), x.rests(coins), x.goes(coins, coins),
                x.tip(coins), x.out(coins, 0)}, 5, 9, 1, 0, LightCoins.NONE, 0);
        }
        LightCoins x = coinsOf5(1);
        x.purse(0, 5, 0);
        x.purse(1, 5, 0);
        Check.due("14 the last coin is gone", x.rests(1), LightCoins.STATE);
    }

    /** "the first of these: BAD .., STATE ..". */
    private static void badAheadOfState() {
        LightCoins x = coinsOf5(3);
        Check.row("n", new long[] {x.rests(0), x.rests(31), x.goes(0, 0), x.goes(31, 31), x.tip(0), x.tip(31), x.out(0, 0), x.out(31, 0)},
            -1, -1, -1, -1, -1, -1, -1, -1);
        Check.row("k", new long[] {x.goes(4, 5), x.goes(4, -1), x.out(4, 5), x.out(4, -1), x.goes(4, 4), x.out(4, 4)}, -1, -1, -1, -1, -2, -2);
    }

    /** "NO: BAD, STATE, or nobody takes so." */
    private static void nobodyTakesSo() {
        for (int n : new int[] {1, 7, 30}) {
            int takers = n;
            for (int what = 0; what <= 1; what++) {
                int of = what;
                Check.changesNothing("13 nobody looks of " + n, Check::busy, x -> x.gain(takers, 0, 1, of), LightCoins.NO);
                Check.changesNothing("13 nobody takes by tale of " + n, Check::busy, x -> x.gain(takers, takers, 0, of), LightCoins.NO);
            }
        }
    }

    /** "the K heaviest come to those who look, one each, the N - K lightest to the others". */
    private static void heaviestAndLightest() {
        LightCoins x = withCoins(0, 2, 0, 0, 0, 3, 0, 0, 0, 0, 2);
        Check.row("13 10 to one", gains(x, 7, 1, 1), 10, 1);
        Check.row("13 10 10", gains(x, 7, 2, 1), 10, 1);
        Check.row("13 10 10 6", gains(x, 7, 3, 1), 26, 3);
        Check.row("13 all", gains(x, 7, 7, 1), 40, 7);
        Check.row("13 all", gains(x, 7, 0, 0), 40, 7);
        Check.row("13 1", gains(x, 7, 6, 0), 1, 1);
        Check.row("13 1 1 6", gains(x, 7, 4, 0), 8, 3);
        // Fewer takers than coins: those in the middle come to nobody.
        Check.row("13 1 1 of three", gains(x, 3, 1, 0), 1, 1);
        Check.row("13 10 of three", gains(x, 3, 1, 1), 10, 1);
        Check.row("13 one taker by tale", gains(x, 1, 0, 0), 1, 1);
        Check.row("13 one taker who looks", gains(x, 1, 1, 1), 10, 1);
        LightCoins two = withCoins(0, 1, 0, 0, 0, 0, 0, 0, 0, 0, 1);
        Check.row("13 the lightest and the heaviest", new long[] {two.gain(1, 0, 0, 0), two.gain(1, 1, 1, 0), two.gain(2, 1, 0, 0), two.gain(2, 1, 1, 0)}, 1, 10, 1, 10);
        LightCoins many = Check.townOf("tale light 0;".repeat(8));
        for (int p = 0; p < 8; p++) {
            many.purse(p, 0, 99);
            many.purse(p, 9, 99);
        }
        many.tune(1, 0);
        Check.row("13 30 of 1584", new long[] {many.gain(30, 15, 0, 0), many.gain(30, 15, 1, 0), many.gain(30, 30, 1, 0), many.gain(30, 0, 0, 0)}, 1, 10, 10, 1);
    }

    private static void leastTerms() {
        LightCoins x = withCoins(0, 0, 2, 0, 2);
        Check.row("13 32 by 4", gains(x, 4, 4, 1), 8, 1);
        x.tune(1, 5);
        Check.row("13 8 less a half", gains(x, 4, 4, 1), 15, 2);
        x.tune(1, 80);
        Check.row("13 none at all", gains(x, 4, 4, 1), 0, 1);
        x.tune(1, 99);
        Check.row("13 below 0: the upper number is", gains(x, 4, 4, 1), -19, 10);
        x.tune(1, 90);
        Check.row("13 -1", gains(x, 4, 4, 1), -1, 1);
        LightCoins light = withCoins(99, 0, 0, 0, 0, 0, 0, 0, 0, 0, 30);
        Check.row("13 the least gain there is", gains(light, 30, 30, 1), -89, 10);
        light.tune(1, 1);
        Check.row("13 a tenth", gains(light, 30, 30, 1), 9, 10);
    }

    /** "K is 0, or ..; and K is N, or ..". */
    private static void restsAtTheEnds() {
        LightCoins dear = withCoins(99, 0, 4, 0, 0, 0, 4);
        Check.row("14 none look", new long[] {dear.rests(1), dear.rests(8)}, 1, 1);
        LightCoins cheap = withCoins(0, 1, 1, 1, 1, 1, 1, 1, 1, 1, 1);
        Check.row("14 all look", new long[] {cheap.rests(1), cheap.rests(10)}, 2, 1024);
    }

    /** "no less than": equal gains rest. */
    private static void equalGainsRest() {
        LightCoins x = withCoins(0, 0, 0, 0, 3);
        Check.row("14 all alike and looking free", new long[] {x.rests(1), x.rests(2), x.rests(3)}, 3, 7, 15);
        // 10 and 8 for one taker: looking at 20 tenths gains the same, at 19 more, at 21 less.
        LightCoins y = withCoins(20, 1, 0, 1);
        Check.due("14 the same", y.rests(1), 3);
        y.tune(1, 19);
        Check.due("14 a tenth more", y.rests(1), 2);
        y.tune(1, 21);
        Check.due("14 a tenth less", y.rests(1), 1);
    }

    /** Bits 0 .. 30 for 30 takers. */
    private static void thirtyTakers() {
        LightCoins x = withCoins(0, 0, 0, 0, 0, 30);
        Check.row("14 all 31 rest", new long[] {x.rests(30), x.tip(30), x.goes(30, 0), x.goes(30, 30)}, 0x7FFFFFFF, 30, 0, 30);
        x.tune(1, 1);
        Check.row("14 none look", new long[] {x.rests(30), x.tip(30), x.goes(30, 30)}, 1, LightCoins.NONE, 0);
        x.tune(1, 0);
        x.purse(0, 0, 30);
        Check.row("14 all look: bit 30", new long[] {x.rests(30), x.tip(30), x.goes(30, 0)}, 1 << 30, 0, 30);
    }

    /** "to K + 1, if ..; else to K - 1": where both are better, it goes up. */
    private static void upAheadOfDown() {
        // 10 10 10 1, a cost of 5: tales of 0 to 3 are 31/4, 7, 11/2, 1, looks of 1 to 4 are 5, 5, 5, 11/4.
        LightCoins x = withCoins(50, 3, 0, 0, 0, 0, 0, 0, 0, 0, 1);
        Check.row("13 tale of 2, look of 3", new long[] {x.gain(4, 2, 0, 0), x.gain(4, 2, 0, 1), x.gain(4, 3, 1, 0), x.gain(4, 3, 1, 1)}, 11, 2, 5, 1);
        Check.row("13 tale of 3, look of 4", new long[] {x.gain(4, 3, 0, 0), x.gain(4, 3, 0, 1), x.gain(4, 4, 1, 0), x.gain(4, 4, 1, 1)}, 1, 1, 11, 4);
        Check.row("15 from 3 it goes up", allGoes(x, 4), 0, 0, 0, 4, 4);
        Check.row("14, 16", new long[] {x.rests(4), x.tip(4)}, 17, 3);
    }

    /** "is more than": equal gains draw nobody. */
    private static void equalGainsStay() {
        LightCoins x = withCoins(0, 0, 0, 0, 0, 0, 0, 5);
        Check.row("15 all alike and looking free", allGoes(x, 5), 0, 1, 2, 3, 4, 5);
        LightCoins y = withCoins(20, 1, 0, 1);
        Check.row("15 the same", allGoes(y, 1), 0, 1);
        y.tune(1, 19);
        Check.row("15 a tenth more", allGoes(y, 1), 1, 1);
        y.tune(1, 21);
        Check.row("15 a tenth less", allGoes(y, 1), 0, 0);
        LightCoins far = withCoins(99, 0, 0, 0, 30);
        Check.row("15 30 steps down", new long[] {far.goes(30, 30), far.goes(30, 1), far.goes(30, 0)}, 0, 0, 0);
        LightCoins up = withCoins(0, 30, 0, 0, 0, 0, 0, 0, 0, 0, 30);
        Check.row("15 30 steps up", new long[] {up.goes(30, 0), up.goes(30, 29), up.goes(30, 30)}, 30, 30, 30);
    }

    /** "TIP: the least K from which it GOES to N; NONE." */
    private static void tips() {
        LightCoins x = withCoins(20, 1, 0, 1);
        Check.due("16 N alone", x.tip(1), 1);
        x.tune(1, 19);
        Check.due("16 0", x.tip(1), 0);
        x.tune(1, 21);
        Check.due("16 none, not even N", x.tip(1), LightCoins.NONE);
        Check.due("16 a resting K below N is not N", withCoins(10, 1, 0, 3).tip(3), LightCoins.NONE);
        LightCoins y = withCoins(50, 3, 0, 0, 0, 0, 0, 0, 0, 0, 1);
        Check.due("16 between", y.tip(4), 3);
    }

    /** "WEIGHTS of which there are COINS, but none that come to anybody." */
    private static void out() {
        LightCoins x = withCoins(5, 1, 1, 1, 1, 1, 1, 1, 1, 1, 1);
        Check.row("17 one taker", new long[] {x.out(1, 0), x.out(1, 1)}, 511, 1022);
        Check.row("17 nine takers", new long[] {x.out(9, 0), x.out(9, 9), x.out(9, 4)}, 1, 512, 16);
        Check.row("17 as many takers as coins", new long[] {x.out(10, 0), x.out(10, 5), x.out(10, 10)}, 0, 0, 0);
        LightCoins y = withCoins(5, 0, 0, 3, 0, 0, 0, 3);
        Check.row("17 weights without coins are not out", new long[] {y.out(1, 0), y.out(1, 1), y.out(2, 1)}, 4, 64, 0);
        Check.row("17 one of several is enough", new long[] {y.out(3, 0), y.out(4, 0), y.out(3, 3), y.out(4, 4)}, 4, 0, 64, 0);
        LightCoins z = withCoins(5, 0, 0, 30);
        Check.row("17 of one weight", new long[] {z.out(1, 0), z.out(1, 1), z.out(30, 15)}, 0, 0, 0);
    }

    /** "NO: BAD": no other refusal, also in a town of nobody. */
    private static void clipsRefused() {
        for (int what = 0; what <= 2; what++) {
            int of = what;
            Check.bounds("18 w, what = " + what, Check::busy, (x, w) -> x.clip(w, of), 0, 9, LightCoins.NO);
            Check.bounds("18 w of nobody, what = " + what, LightCoins::new, (x, w) -> x.clip(w, of), 0, 9, LightCoins.NO);
        }
        Check.bounds("18 what", Check::busy, (x, what) -> x.clip(0, what), 0, 2, LightCoins.NO);
        Check.bounds("18 what of weight 9", Check::busy, (x, what) -> x.clip(9, what), 0, 2, LightCoins.NO);
    }

    private static LightCoins tuned(int limit, int fine, int risk, int silver) {
        LightCoins x = new LightCoins();
        x.tune(0, limit);
        x.tune(2, fine);
        x.tune(3, risk);
        x.tune(4, silver);
        return x;
    }

    /** "WORTH 10 with w LIMIT at most, else what is there". */
    private static void worthByTheLimit() {
        for (int limit = 0; limit <= 9; limit++) {
            LightCoins x = tuned(limit, 0, 10, 0);
            for (int w = 0; w <= 9; w++) {
                Check.row("18 limit " + limit + ", weight " + w, new long[] {x.clip(w, 0), x.clip(w, 1), x.clip(w, 2)}, w <= limit ? 10 : 10 - w, 1, w);
            }
        }
    }

    /** "or it is clipped (w below 9)": from 8 to 9 at last, from 9 never. */
    private static void clippedBelow9() {
        LightCoins x = tuned(9, 0, 0, 20);
        for (int w = 0; w <= 9; w++) {
            Check.row("18 weight " + w, new long[] {x.clip(w, 0), x.clip(w, 1), x.clip(w, 2)}, 10 + 20 * (9 - w), 1, 9);
        }
        LightCoins y = tuned(0, 0, 0, 20);
        Check.row("18 with a limit of 0", new long[] {y.clip(9, 0), y.clip(8, 0), y.clip(0, 0), y.clip(9, 2), y.clip(8, 2)}, 1, 21, 181, 9, 9);
    }

    /** "with RISK it is taken": 0 tenths never, 10 always. */
    private static void riskAtItsEnds() {
        LightCoins never = tuned(9, 99, 0, 1);
        Check.row("18 never: the fine is none", new long[] {never.clip(0, 0), never.clip(0, 1), never.clip(0, 2)}, 19, 1, 9);
        LightCoins always = tuned(9, 0, 10, 20);
        Check.row("18 always: the silver is none", new long[] {always.clip(0, 0), always.clip(0, 1), always.clip(0, 2)}, 10, 1, 0);
        LightCoins dear = tuned(9, 99, 10, 20);
        Check.row("18 the worth as it is, not what is below 0", new long[] {dear.clip(8, 0), dear.clip(8, 1), dear.clip(8, 2)}, 10, 1, 8);
        LightCoins most = tuned(9, 99, 9, 20);
        Check.row("18 nine tenths and the highest fine", new long[] {most.clip(0, 0), most.clip(0, 2)}, 10, 0);
    }

    /** "it is clipped only if that is more". */
    private static void equalIsNotClipped() {
        LightCoins x = tuned(9, 0, 0, 0);
        for (int w = 0; w <= 9; w++) {
            Check.row("18 nothing won, nothing lost", new long[] {x.clip(w, 0), x.clip(w, 2)}, 10, w);
        }
        LightCoins y = tuned(0, 0, 0, 1);
        Check.row("18 a grain for a grain", new long[] {y.clip(1, 2), y.clip(8, 2), y.clip(0, 2)}, 1, 8, 0);
        // From 10 at the limit to 1 behind it: silver of 9 is the same, of 10 more.
        LightCoins one = tuned(8, 0, 0, 9);
        Check.row("18 nine for nine", new long[] {one.clip(8, 0), one.clip(8, 2), one.clip(7, 2)}, 10, 8, 8);
        one.tune(4, 10);
        Check.row("18 ten for nine", new long[] {one.clip(8, 0), one.clip(8, 2)}, 11, 9);
        // Taken half of the times: half of a silver of 10 and a worth of 10 is the same.
        LightCoins half = tuned(9, 0, 5, 10);
        Check.row("18 the same by risk", new long[] {half.clip(8, 0), half.clip(8, 2)}, 10, 8);
        half.tune(4, 11);
        Check.row("18 more by risk", new long[] {half.clip(8, 0), half.clip(8, 1), half.clip(8, 2)}, 21, 2, 9);
        half.tune(2, 1);
        Check.row("18 the same by the fine", new long[] {half.clip(8, 0), half.clip(8, 1), half.clip(8, 2)}, 10, 1, 8);
    }

    private static void worthInLeastTerms() {
        LightCoins x = tuned(9, 0, 5, 12);
        Check.row("18 11 by 1", new long[] {x.clip(8, 0), x.clip(8, 1)}, 11, 1);
        Check.row("18 23 by 2", new long[] {x.clip(7, 0), x.clip(7, 1)}, 23, 2);
        LightCoins long9 = tuned(9, 1, 1, 20);
        // 179 less 169 times nine tenths to the 9th.
        Check.row("18 nine clips", new long[] {long9.clip(0, 0), long9.clip(0, 1), long9.clip(0, 2)}, 179000000000L - 169 * 387420489L, 1000000000L, 9);
    }
}
