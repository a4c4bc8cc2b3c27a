import java.math.BigInteger;

/** Promises 10 to 12, and what a MEETING is: the last that is taken, the first that is refused. */
public final class MeetingEdgesTest {
    public static void main(String[] args) {
        fewerThanTwo();
        runsOf1To500();
        whatIsMet();
        theLotWraps();
        drawsOf16Bits();
        twoPeople();
        eightPeople();
        howOftenTheLotGoesOn();
        belowX();
        limits();
        lightAndHeavy();
        emptyPurses();
        purseOf99();
        Check.finish();
    }

    private static LightCoins coinsForAll(String town, int people, int w) {
        LightCoins x = Check.townOf(town);
        for (int p = 0; p < people; p++) {
            x.purse(p, w, 5);
        }
        return x;
    }

    /** "STATE: fewer than 2 PEOPLE." */
    private static void fewerThanTwo() {
        String[] towns = {"", "tale light 0;"};
        for (int people = 0; people < 2; people++) {
            String town = towns[people];
            int m = people;
            Check.changesNothing("10 " + m, () -> coinsForAll(town, m, 3), x -> x.meet(), LightCoins.STATE);
            Check.changesNothing("11 " + m, () -> coinsForAll(town, m, 3), x -> x.run(1), LightCoins.STATE);
            Check.changesNothing("11 " + m, () -> coinsForAll(town, m, 3), x -> x.run(500), LightCoins.STATE);
            Check.changesNothing("11 BAD ahead of STATE", () -> coinsForAll(town, m, 3), x -> x.run(0), LightCoins.BAD);
            Check.changesNothing("11 BAD ahead of STATE", () -> coinsForAll(town, m, 3), x -> x.run(501), LightCoins.BAD);
        }
        Check.due("10 two", coinsForAll("tale light 0;tale light 0;", 2, 3).meet(), 3);
        Check.due("11 two", coinsForAll("tale light 0;tale light 0;", 2, 3).run(1), 1);
    }

    /** "n MEETINGS (1 .. 500)". */
    private static void runsOf1To500() {
        Check.bounds("11 n", Check::busy, (x, n) -> x.run(n), 1, 500, LightCoins.BAD);
        LightCoins one = Check.busy();
        LightCoins met = Check.busy();
        Check.due("11 one is as meet()", one.run(1), met.meet() == LightCoins.NONE ? 0 : 1);
        Check.holds("11 one is as meet()", Check.wholeOf(one).equals(Check.wholeOf(met)));
        LightCoins x = coinsForAll("tale light 0;tale light 0;", 2, 3);
        Check.row("11 500", new long[] {x.count(4), x.run(500) > 0 ? 1 : 0, x.count(4), x.count(1)}, 0, 1, 500, 10);
        LightCoins empty = Check.townOf("tale light 0;tale light 0;");
        Check.row("11 nothing is paid in any of 500", new long[] {empty.run(500), empty.count(4)}, 0, 500);
        LightCoins y = Check.townOf("tale light 0;tale light 0;");
        y.purse(0, 4, 99);
        y.purse(1, 4, 99);
        Check.due("11 full purses: none is paid", y.run(500), 0);
    }

    /** "NONE ahead of any; BAD." */
    private static void whatIsMet() {
        Check.bounds("12 what", Check::busy, (x, what) -> x.met(what), 0, 3, LightCoins.BAD);
        Check.row("12 BAD ahead of any", new long[] {new LightCoins().met(-1), new LightCoins().met(4)}, -1, -1);
        LightCoins x = Check.townOf("tale light 0;look light 0;");
        Check.row("12 ahead of any", new long[] {x.met(0), x.met(1), x.met(2), x.met(3)}, -9, -9, -9, -9);
        Check.due("10 nothing to pay", x.meet(), LightCoins.NONE);
        Check.holds("12 the two are told", x.met(0) + x.met(1) == 1 && x.met(2) == x.met(1));
        Check.due("12 nothing was paid", x.met(3), LightCoins.NONE);
        int payer = x.met(0);
        x.clear();
        x.type('!', 1);
        x.town();
        Check.due("12 a fault leaves it", x.met(0), payer);
        x.clear();
        x.town();
        Check.row("12 a town anew does not", new long[] {x.met(0), x.met(1), x.met(2), x.met(3)}, -9, -9, -9, -9);
    }

    /** "times 1103515245 and 12345, wrapped". */
    private static void theLotWraps() {
        for (int lot : new int[] {0, 1, -1, Integer.MAX_VALUE, Integer.MIN_VALUE, 123456789, -987654321}) {
            LightCoins x = Check.townOf("tale light 0;tale light 0;");
            x.lot(lot);
            x.meet();
            Check.due("10 from " + lot, x.lot(0), wrapped(wrapped(lot)));
        }
        LightCoins x = Check.townOf("tale light 0;tale light 0;");
        long lot = 1;
        for (int i = 0; i < 100; i++) {
            lot = wrapped(wrapped(lot));
        }
        x.run(100);
        Check.due("11 200 times", x.lot(0), lot);
    }

    /** In numbers without bounds, so that nothing wraps unseen. */
    private static long wrapped(long lot) {
        BigInteger all = BigInteger.valueOf(lot).multiply(BigInteger.valueOf(1103515245L));
        return all.add(BigInteger.valueOf(12345)).intValue();
    }

    /** A lot that goes on to 'next': found by going back, as 1103515245 is odd. */
    private static int lotAheadOf(int next) {
        return BigInteger.valueOf(next).subtract(BigInteger.valueOf(12345))
            .multiply(BigInteger.valueOf(1103515245L).modInverse(BigInteger.ONE.shiftLeft(32))).intValue();
    }

    /** "its DRAW is its upper 16 bits, 0 .. 65535": never below 0, and the lower bits don't count. */
    private static void drawsOf16Bits() {
        for (int m = 2; m <= 8; m++) {
            int[] draws = {0, 1, m - 1, m, 32767, 32768, 65534, 65535};
            for (int draw : draws) {
                for (int lower : new int[] {0, 1, 65535}) {
                    LightCoins x = Check.townOf("tale light 0;".repeat(m));
                    x.lot(lotAheadOf(draw << 16 | lower));
                    x.meet();
                    Check.due("12 payer by draw " + draw + " of " + m, x.met(0), draw % m);
                    x.lot(lotAheadOf(lotAheadOf(draw << 16 | lower)));
                    x.meet();
                    Check.due("12 taker by draw " + draw + " of " + m, x.met(1), (x.met(0) + 1 + draw % (m - 1)) % m);
                }
            }
        }
    }

    /** With m = 2 the taker's draw is left over by 1. */
    private static void twoPeople() {
        LightCoins x = Check.townOf("tale light 0;tale light 0;");
        int[] paid = new int[2];
        for (int i = 0; i < 100; i++) {
            x.meet();
            Check.due("12 the other takes", x.met(1), 1 - x.met(0));
            paid[x.met(0)]++;
        }
        Check.holds("12 both pay", paid[0] > 0 && paid[1] > 0);
    }

    private static void eightPeople() {
        LightCoins x = Check.townOf("tale light 0;".repeat(8));
        int payers = 0;
        int takers = 0;
        for (int i = 0; i < 100; i++) {
            x.meet();
            Check.holds("12 nobody takes their own", x.met(0) != x.met(1));
            payers |= 1 << x.met(0);
            takers |= 1 << x.met(1);
        }
        Check.row("12 all eight pay and take, and nobody else", new long[] {payers, takers}, 255, 255);
    }

    /** "if the taker looks now and then, it goes on": also with X that is 0 or 10, also if there is nothing to pay. */
    private static void howOftenTheLotGoesOn() {
        String[] ways = {"tale", "look", "some 0", "some 1", "some 10"};
        int[] times = {2, 2, 3, 3, 3};
        for (int i = 0; i < ways.length; i++) {
            for (int coins = 0; coins <= 1; coins++) {
                LightCoins x = coinsForAll((ways[i] + " light 0;").repeat(2), 2 * coins, 0);
                x.meet();
                long lot = 1;
                for (int t = 0; t < times[i]; t++) {
                    lot = wrapped(lot);
                }
                Check.due("10 the lot with " + ways[i], x.lot(0), lot);
            }
        }
        // Only the taker's way counts, not the payer's.
        LightCoins x = Check.townOf("some 5 light 0;tale light 0;");
        x.meet();
        long lot = wrapped(wrapped(1));
        Check.due("10 the lot by the taker's way", x.lot(0), x.met(1) == 0 ? wrapped(lot) : lot);
    }

    /** "they look, if DRAW left over by 10 is below X. (By tale never, by look always.)" */
    private static void belowX() {
        for (int tenths = 0; tenths <= 10; tenths++) {
            for (int left = 0; left <= 9; left++) {
                for (int draw : new int[] {left, 65520 + left}) {
                    LightCoins x = Check.townOf(("some " + tenths + " light 0;").repeat(2));
                    x.lot(lotAheadOf(lotAheadOf(lotAheadOf(draw << 16 | 77))));
                    x.meet();
                    Check.due("12 draw " + draw + " with X of " + tenths, x.met(2), left < tenths ? 1 : 0);
                }
            }
        }
        for (int i = 0; i < 30; i++) {
            LightCoins x = Check.townOf("tale light 0;look light 0;");
            x.lot(i * 7919);
            x.meet();
            Check.due("12 tale never, look always", x.met(2), x.met(1));
        }
    }

    /** "if the taker looks, those of WEIGHT LIMIT at most": LIMIT 0 .. 9. */
    private static void limits() {
        for (int limit = 0; limit <= 9; limit++) {
            for (int w = 0; w <= 9; w++) {
                for (String pay : new String[] {" light 0;", " heavy 0;"}) {
                    LightCoins looked = coinsForAll(("look" + pay).repeat(2), 2, w);
                    looked.tune(0, limit);
                    Check.due("10 weight " + w + " with limit " + limit, looked.meet(), w <= limit ? w : LightCoins.NONE);
                    Check.due("10 coins stay in town", looked.coins(-1, w), 10);
                    LightCoins told = coinsForAll(("tale" + pay).repeat(2), 2, w);
                    told.tune(0, limit);
                    Check.due("10 by tale all are taken", told.meet(), w);
                }
            }
        }
    }

    /** "PAY light pays the one that misses most, heavy the one that misses least": of those that are taken. */
    private static void lightAndHeavy() {
        Check.row("10 all weights", new long[] {paidOfAll("tale light 0;", 4), paidOfAll("tale heavy 0;", 4), paidOfAll("look light 0;", 4),
            paidOfAll("look heavy 0;", 4), paidOfAll("look light 0;", 0), paidOfAll("look light 0;", 9)}, 9, 0, 4, 0, 0, 9);
        // The payer's PAY counts, not the taker's.
        LightCoins x = coinsForAll("tale light 0;tale heavy 0;", 2, 0);
        x.purse(0, 9, 5);
        x.purse(1, 9, 5);
        for (int i = 0; i < 12; i++) {
            int paid = x.meet();
            Check.due("10 the payer's way to pay", paid, x.met(0) == 0 ? 9 : 0);
            x.purse(0, paid, 5);
            x.purse(1, paid, 5);
        }
    }

    private static int paidOfAll(String item, int limit) {
        LightCoins x = Check.townOf(item.repeat(2));
        x.tune(0, limit);
        for (int w = 0; w <= 9; w++) {
            x.purse(0, w, 1);
            x.purse(1, w, 1);
        }
        return x.meet();
    }

    /** Nothing to pay is a MEETING all the same. */
    private static void emptyPurses() {
        LightCoins x = Check.townOf("tale light 0;tale light 0;");
        Check.row("10 nothing to pay", new long[] {x.meet(), x.count(4), x.met(3), x.count(1)}, -9, 1, -9, 0);
        x.lot(1);
        int payer = x.met(0);
        x.purse(payer, 6, 1);
        Check.row("10 the last coin", new long[] {x.meet(), x.coins(payer, 6), x.coins(1 - payer, 6), x.count(4)}, 6, 0, 1, 2);
        x.lot(1);
        Check.row("10 the payer has none now", new long[] {x.meet(), x.coins(1 - payer, 6)}, -9, 1);
    }

    /** "not, if that has 99 of it: nothing is paid": no other coin instead. */
    private static void purseOf99() {
        for (int has : new int[] {97, 98, 99}) {
            LightCoins x = Check.townOf("tale light 0;tale light 0;");
            x.meet();
            int payer = x.met(0);
            int taker = x.met(1);
            x.lot(1);
            x.purse(payer, 5, 1);
            x.purse(payer, 2, 1);
            x.purse(taker, 5, has);
            boolean full = has == 99;
            Check.due("10 a taker who has " + has, x.meet(), full ? LightCoins.NONE : 5);
            Check.row("10 a taker who has " + has, new long[] {x.met(3), x.coins(payer, 5), x.coins(taker, 5), x.coins(payer, 2), x.coins(taker, 2), x.count(4)},
                full ? LightCoins.NONE : 5, full ? 1 : 0, full ? 99 : has + 1, 1, 0, 2);
        }
        // 99 of another weight, or 99 in the payer's own purse, hinder nothing.
        LightCoins x = Check.townOf("tale light 0;tale light 0;");
        x.meet();
        int payer = x.met(0);
        x.lot(1);
        x.purse(payer, 5, 99);
        x.purse(1 - payer, 4, 99);
        Check.row("10 99 elsewhere", new long[] {x.meet(), x.coins(payer, 5), x.coins(1 - payer, 5), x.coins(1 - payer, 4)}, 5, 98, 1, 99);
    }
}
