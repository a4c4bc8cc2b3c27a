/** Promises 13 to 18: days, their gains and rests; clipping. */
public final class DaysTest {
    public static void main(String[] args) {
        gain();
        refusedDays();
        rests();
        goesAndTips();
        out();
        clip();
        Check.finish();
    }

    /** 1 coin of weight 0, 2 of 3, 3 of 8, in three purses. */
    private static LightCoins sixCoins() {
        LightCoins x = Check.townOf("tale light 0;tale light 0;tale light 0;");
        x.purse(2, 0, 1);
        x.purse(1, 3, 2);
        x.purse(0, 8, 2);
        x.purse(1, 8, 1);
        return x;
    }

    private static void gain() {
        LightCoins x = sixCoins();
        Check.row("13 tale of 5, 1: 2 2 2 7", pair(x, 5, 1, 0), 13, 4);
        Check.row("13 look of 5, 1: 10", pair(x, 5, 1, 1), 19, 2);
        Check.row("13 tale of 5, 3: 2 2", pair(x, 5, 3, 0), 2, 1);
        Check.row("13 look of 5, 3: 10 7 7", pair(x, 5, 3, 1), 15, 2);
        Check.row("13 nobody looks", pair(x, 5, 0, 1), LightCoins.NO, LightCoins.NO);
        Check.row("13 all look", pair(x, 5, 5, 0), LightCoins.NO, LightCoins.NO);
        x.tune(1, 80);
        Check.row("13 a gain of 0", pair(x, 3, 3, 1), 0, 1);
        x.tune(1, 99);
        Check.row("13 a gain below 0", pair(x, 6, 6, 1), -49, 10);
    }

    private static long[] pair(LightCoins x, int n, int k, int which) {
        return new long[] {x.gain(n, k, which, 0), x.gain(n, k, which, 1)};
    }

    private static void refusedDays() {
        LightCoins x = sixCoins();
        int[][] bad = {{0, 0}, {31, 0}, {-1, 0}, {3, -1}, {3, 4}, {7, 8}, {31, 32}};
        for (int[] b : bad) {
            Check.due("13 BAD", x.gain(b[0], b[1], 0, 0), LightCoins.NO);
            Check.due("15 BAD", x.goes(b[0], b[1]), LightCoins.BAD);
            Check.due("17 BAD", x.out(b[0], b[1]), LightCoins.BAD);
        }
        for (int n : new int[] {0, -1, 31, Integer.MAX_VALUE, Integer.MIN_VALUE}) {
            Check.due("14 BAD", x.rests(n), LightCoins.BAD);
            Check.due("16 BAD", x.tip(n), LightCoins.BAD);
        }
        Check.row("STATE: seven of six", new long[] {x.gain(7, 3, 0, 0), x.rests(7), x.goes(7, 3), x.tip(7), x.out(7, 3)},
            LightCoins.NO, -2, -2, -2, -2);
        Check.row("13 which, what", new long[] {x.gain(5, 1, -1, 0), x.gain(5, 1, 2, 0), x.gain(5, 1, 0, -1), x.gain(5, 1, 0, 2)},
            LightCoins.NO, LightCoins.NO, LightCoins.NO, LightCoins.NO);
        Check.holds("six of six", x.rests(6) >= 0 && x.goes(6, 3) >= 0 && x.out(6, 3) >= 0);
    }

    private static void rests() {
        LightCoins x = sixCoins();
        Check.due("14 looking is cheap", x.rests(6), 64);
        x.tune(1, 99);
        Check.due("14 looking is dear", x.rests(6), 1);
        // Coins alike and looking free: nobody gains more otherwise, so that all rest.
        x = Check.townOf("tale light 0;");
        x.purse(0, 4, 40);
        x.tune(1, 0);
        Check.due("14 all rest, 30 takers", x.rests(30), Integer.MAX_VALUE);
        Check.due("14 all rest, 1 taker", x.rests(1), 3);
        Check.due("16 all alone go to all", x.tip(30), 30);
        // 10 8 8 8, three takers, a cost of 1: looks of 1, 2, 3 are 9, 8, 23/3, all tales are 8.
        x.purse(0, 4, 0);
        x.purse(0, 0, 1);
        x.purse(0, 2, 3);
        x.tune(1, 10);
        Check.due("14 one or two look", x.rests(3), 6);
        Check.due("16 two are not all", x.tip(3), LightCoins.NONE);
        Check.row("15 to one or two", new long[] {x.goes(3, 0), x.goes(3, 1), x.goes(3, 2), x.goes(3, 3)}, 1, 1, 2, 2);
        // With a cost of 2 look of 1 is 8, as tale of 0.
        x.tune(1, 20);
        Check.due("14 a tie", x.rests(3), 3);
        Check.row("15 a tie stays", new long[] {x.goes(3, 0), x.goes(3, 1), x.goes(3, 2), x.goes(3, 3)}, 0, 1, 1, 1);
    }

    private static void goesAndTips() {
        LightCoins x = Check.townOf("tale light 0;");
        x.purse(0, 5, 3);
        x.purse(0, 9, 1);
        x.tune(1, 20);
        // 5 5 5 1, a cost of 2: tales of 0 to 3 are 4, 11/3, 3, 1, looks of 1 to 4 are 3, 3, 3, 2.
        Check.due("14 none or all", x.rests(4), 17);
        Check.row("15", new long[] {x.goes(4, 0), x.goes(4, 1), x.goes(4, 2), x.goes(4, 3), x.goes(4, 4)}, 0, 0, 0, 4, 4);
        Check.due("16 tip at 3", x.tip(4), 3);
        // One taker of 10 or 9: looking at 9 tenths gains a tenth more, at 11 a tenth less.
        x = Check.townOf("tale light 0;");
        x.purse(0, 0, 1);
        x.purse(0, 1, 1);
        x.tune(1, 9);
        Check.row("15 a tenth more", new long[] {x.goes(1, 0), x.goes(1, 1), x.rests(1)}, 1, 1, 2);
        x.tune(1, 11);
        Check.row("15 a tenth less", new long[] {x.goes(1, 0), x.goes(1, 1), x.rests(1)}, 0, 0, 1);
        x.purse(0, 5, 3);
        x.purse(0, 0, 0);
        x.purse(0, 1, 0);
        x.purse(0, 9, 1);
        x.tune(1, 0);
        Check.due("16 tip at 0", x.tip(4), 0);
        x.tune(1, 99);
        Check.due("16 none", x.tip(4), LightCoins.NONE);
    }

    private static void out() {
        LightCoins x = sixCoins();
        Check.row("17 of 3", new long[] {x.out(3, 0), x.out(3, 1), x.out(3, 2), x.out(3, 3)}, 9, 8, 0, 256);
        Check.row("17 of 1", new long[] {x.out(1, 0), x.out(1, 1)}, 9, 264);
        Check.row("17 of 6", new long[] {x.out(6, 0), x.out(6, 6)}, 0, 0);
    }

    private static void clip() {
        LightCoins x = new LightCoins();
        Check.row("18 as it is", new long[] {x.clip(2, 0), x.clip(2, 1), x.clip(2, 2), x.clip(3, 0), x.clip(9, 0), x.clip(9, 2)},
            10, 1, 2, 7, 1, 9);
        x.tune(3, 0);
        Check.row("18 no risk: clipped to the limit", new long[] {x.clip(0, 0), x.clip(0, 1), x.clip(0, 2), x.clip(1, 2)}, 12, 1, 2, 2);
        // Above the limit a grain of silver is just what is lost: no more, so that it is not clipped.
        Check.due("18 only if that is more", x.clip(3, 2), 3);
        x.tune(4, 2);
        Check.row("18 two for one", new long[] {x.clip(0, 0), x.clip(0, 2), x.clip(8, 0), x.clip(8, 2)}, 19, 9, 3, 9);
        x.tune(3, 3);
        x.tune(2, 7);
        x.tune(4, 6);
        x.tune(0, 5);
        Check.row("18 by hand", new long[] {x.clip(7, 0), x.clip(7, 1), x.clip(7, 2), x.clip(6, 0), x.clip(6, 1)}, 203, 50, 9, 2471, 500);
        // 180 less 179 times nine tenths to the 9th: nothing cancels.
        x.tune(0, 0);
        x.tune(2, 0);
        x.tune(3, 1);
        x.tune(4, 20);
        Check.row("18 nine clips", new long[] {x.clip(0, 0), x.clip(0, 1), x.clip(0, 2)}, 110651732469L, 1000000000L, 9);
        x.tune(3, 10);
        Check.row("18 always caught", new long[] {x.clip(0, 0), x.clip(0, 2), x.clip(9, 2)}, 10, 0, 9);
        Check.row("18 BAD", new long[] {x.clip(-1, 0), x.clip(10, 0), x.clip(0, -1), x.clip(0, 3)},
            LightCoins.NO, LightCoins.NO, LightCoins.NO, LightCoins.NO);
    }
}
