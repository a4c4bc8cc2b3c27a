/** Promises 19 to 26: years, the changer, laws, the first day. */
public final class YearsTest {
    public static void main(String[] args) {
        year();
        wear();
        mean();
        shabby();
        changer();
        law();
        cheapest();
        first();
        seeds();
        Check.finish();
    }

    private static void year() {
        LightCoins x = new LightCoins();
        Check.row("19 BAD", new long[] {x.year(0), x.year(51), x.year(-1)}, -1, -1, -1);
        Check.due("19 one", x.year(1), 1);
        Check.due("19 fifty", x.year(50), 51);
        for (int i = 0; i < 18; i++) {
            x.year(50);
        }
        Check.due("19 951", x.count(2), 951);
        Check.due("19 beyond", x.year(50), LightCoins.STATE);
        Check.due("19 stays", x.count(2), 951);
        Check.due("19 1000", x.year(49), 1000);
        Check.due("19 beyond", x.year(1), LightCoins.STATE);
        Check.due("19 BAD ahead of STATE", x.year(51), LightCoins.BAD);
    }

    private static void wear() {
        LightCoins x = Check.townOf("tale light 0;tale light 0;");
        x.tune(5, 7);
        x.purse(0, 0, 3);
        x.purse(0, 4, 99);
        x.purse(0, 8, 50);
        x.purse(0, 9, 50);
        x.purse(1, 8, 1);
        x.year(6);
        Check.due("19 not yet", x.coins(0, 0), 3);
        x.year(1);
        Check.row("19 one grain", new long[] {x.coins(0, 0), x.coins(0, 1), x.coins(0, 4), x.coins(0, 5), x.coins(0, 8), x.coins(0, 9), x.coins(1, 9)},
            0, 3, 0, 99, 0, 99, 1);
        Check.due("19 one coin is lost", x.count(1), 202);
        x.year(50);
        Check.row("19 seven more, years 14 to 56", new long[] {x.coins(0, 8), x.coins(0, 9), x.count(1)}, 3, 99, 103);
        x.tune(5, 99);
        x.year(41);
        Check.due("19 98", x.coins(0, 8), 3);
        x.year(1);
        Check.due("19 99", x.coins(0, 8), 0);
    }

    private static void mean() {
        LightCoins x = Check.townOf("tale light 0;tale light 0;");
        Check.row("20 none", new long[] {x.mean(0), x.mean(1)}, LightCoins.NO, LightCoins.NO);
        x.purse(0, 7, 1);
        Check.row("20 of one", new long[] {x.mean(0), x.mean(1)}, 3, 1);
        x.purse(0, 7, 0);
        x.purse(0, 0, 2);
        x.purse(1, 6, 4);
        Check.row("20 36 by 6", new long[] {x.mean(0), x.mean(1)}, 6, 1);
        x.purse(1, 9, 2);
        Check.row("20 38 by 8", new long[] {x.mean(0), x.mean(1)}, 19, 4);
        Check.row("20 BAD", new long[] {x.mean(2), x.mean(-1)}, LightCoins.NO, LightCoins.NO);
    }

    private static void shabby() {
        LightCoins x = Check.townOf("tale light 0;tale light 0;");
        Check.row("21 no coins", new long[] {x.shabby(0), x.shabby(100)}, LightCoins.NONE, LightCoins.NONE);
        Check.row("21 BAD", new long[] {x.shabby(-1), x.shabby(101)}, -1, -1);
        x.purse(0, 0, 1);
        Check.row("21 as it is", new long[] {x.shabby(100), x.shabby(99), x.shabby(90), x.shabby(89), x.shabby(10), x.shabby(9), x.shabby(0)},
            0, 20, 20, 40, 180, LightCoins.NONE, LightCoins.NONE);
        x.year(19);
        Check.row("21 from year 19", new long[] {x.shabby(99), x.shabby(89)}, 1, 21);
        Check.due("21 purses stay", x.coins(0, 0), 1);
        Check.due("21 the year stays", x.count(2), 19);
        x.year(1);
        Check.row("21 from year 20, worn", new long[] {x.shabby(90), x.shabby(89)}, 0, 20);
        x.purse(0, 1, 0);
        x.purse(0, 0, 1);
        Check.due("21 from year 20, new", x.shabby(90), 20);
        x.tune(5, 99);
        Check.due("21 slow wear", x.shabby(10), 8 * 99 + 79);
        x.tune(5, 1);
        Check.due("21 fast wear", x.shabby(10), 9);
        // 99 of weight 8 and 99 of 9 with one whole: those that are lost were light, so that the mean is 107 by 100 next year.
        x.purse(0, 8, 99);
        x.purse(0, 9, 99);
        Check.row("21 lost ones count no more", new long[] {x.shabby(15), x.shabby(14), x.shabby(10)}, 1, 1, 9);
        for (int i = 0; i < 19; i++) {
            x.year(50);
        }
        x.year(30);
        x.purse(0, 9, 0);
        x.purse(1, 0, 1);
        Check.due("21 goes on beyond the year 1000", x.shabby(10), 9);
    }

    private static void changer() {
        LightCoins x = Check.townOf("tale light 0;tale light 0;");
        Check.row("22 an empty purse", new long[] {x.changer(0, 0, 0), x.changer(0, 0, 1)}, 10, 0);
        x.purse(0, 0, 3);
        x.purse(0, 5, 4);
        // Melted for nothing 20 grains are 2 coins: held as high, and of several the greatest x is told.
        Check.row("22 no cut", new long[] {x.changer(0, 0, 0), x.changer(0, 0, 1)}, 10, 50);
        Check.row("22 a cut", new long[] {x.changer(0, 50, 0), x.changer(0, 50, 1)}, 10, 50);
        x.tune(0, 5);
        Check.row("22 all pass", new long[] {x.changer(0, 99, 0), x.changer(0, 99, 1)}, 10, 70);
        Check.due("22 the other's", x.changer(1, 0, 1), 0);
        Check.row("22 purses stay", new long[] {x.coins(0, 0), x.coins(0, 5)}, 3, 4);
        Check.row("22 BAD", new long[] {x.changer(-1, 0, 0), x.changer(2, 0, 0), x.changer(0, -1, 0), x.changer(0, 100, 0), x.changer(0, 0, -1), x.changer(0, 0, 2)},
            -1, -1, -1, -1, -1, -1);
        Check.read(x, "tale light 0;".repeat(8));
        x.purse(7, 9, 99);
        Check.row("22 the last person", new long[] {x.changer(7, 0, 0), x.changer(7, 0, 1)}, 10, 99);
    }

    private static void law() {
        LightCoins x = new LightCoins();
        Check.row("23", new long[] {x.law(8, 2, 99), x.law(8, 2, 0), x.law(8, 2, 5), x.law(8, 1, 7), x.law(0, 0, 3), x.law(8, 2, 6)},
            0, 99, 0, 0, 0, 5);
        Check.row("23 BAD", new long[] {x.law(-1, 0, 0), x.law(9, 0, 0), x.law(0, -1, 0), x.law(0, 3, 0), x.law(0, 0, -1), x.law(0, 0, 100)},
            -1, -1, -1, -1, -1, -1);
        Check.row("23 as they were", new long[] {x.law(0, 0, 0), x.law(8, 1, 0), x.law(8, 2, 0)}, 3, 7, 6);
    }

    private static void cheapest() {
        LightCoins x = new LightCoins();
        Check.row("24 as it is", new long[] {x.cheapest(5, 20, 0), x.cheapest(5, 20, 1)}, 0, 0);
        Check.row("24 none", new long[] {x.cheapest(4, 20, 0), x.cheapest(5, 21, 1)}, LightCoins.NONE, LightCoins.NONE);
        setLaw(x, 1, 4, 2, 0);
        setLaw(x, 3, 4, 2, 0);
        setLaw(x, 6, 9, 4, 30);
        setLaw(x, 8, 5, 0, 30);
        Check.row("24 one law", new long[] {x.cheapest(3, 0, 0), x.cheapest(3, 0, 1)}, 4, 2);
        Check.row("24 two are cheaper than one", new long[] {x.cheapest(1, 0, 0), x.cheapest(1, 0, 1)}, 8, 10);
        Check.row("24 of several the least set", new long[] {x.cheapest(3, 50, 0), x.cheapest(3, 50, 1)}, 9, 64);
        Check.row("24 the fine alone", new long[] {x.cheapest(999, 50, 0), x.cheapest(999, 50, 1)}, 5, 256);
        Check.row("24 both", new long[] {x.cheapest(0, 80, 0), x.cheapest(0, 80, 1)}, 18, 322);
        Check.row("24 below 0 is 0 at most", new long[] {x.cheapest(0, 0, 0), x.cheapest(0, 0, 1)}, 13, 66);
        Check.due("24 too high a fine", x.cheapest(999, 999, 1), LightCoins.NONE);
        setLaw(x, 0, 1, 1, 1);
        Check.row("24 law 0", new long[] {x.cheapest(4, 21, 0), x.cheapest(4, 21, 1)}, 1, 1);
        setLaw(x, 0, 0, 0, 0);
        x.tune(1, 3);
        x.tune(2, 50);
        Check.row("24 tunes tell where from", new long[] {x.cheapest(1, 50, 1), x.cheapest(3, 50, 1)}, 2, 0);
        Check.row("24 BAD", new long[] {x.cheapest(-1, 0, 0), x.cheapest(1000, 0, 0), x.cheapest(0, -1, 0), x.cheapest(0, 1000, 0), x.cheapest(0, 0, -1), x.cheapest(0, 0, 2)},
            -1, -1, -1, -1, -1, -1);
    }

    private static void setLaw(LightCoins x, int k, int cost, int less, int more) {
        x.law(k, 0, cost);
        x.law(k, 1, less);
        x.law(k, 2, more);
    }

    private static void first() {
        LightCoins x = Check.townOf("tale light 2;tale light 1;tale light 0;tale light 4;tale light 8;");
        Check.row("25 from nobody", new long[] {x.first(0, 0), x.first(0, 1)}, 7, 3);
        Check.row("25 from 3", new long[] {x.first(8, 0), x.first(8, 1)}, 15, 2);
        Check.row("25 from 4", new long[] {x.first(16, 0), x.first(16, 1)}, 31, 3);
        Check.row("25 from all", new long[] {x.first(31, 0), x.first(31, 1)}, 31, 0);
        Check.row("25 others left out", new long[] {x.first(224, 0), x.first(255, 0), x.first(255, 1)}, 7, 31, 0);
        Check.row("25 BAD", new long[] {x.first(-1, 0), x.first(256, 0), x.first(0, -1), x.first(0, 2)}, -1, -1, -1, -1);
        Check.read(x, "tale light 7;tale light 6;tale light 5;tale light 4;tale light 3;tale light 2;tale light 1;tale light 0;");
        Check.row("25 one by one", new long[] {x.first(0, 0), x.first(0, 1)}, 255, 8);
        Check.read(x, "");
        Check.row("25 nobody there", new long[] {x.first(255, 0), x.first(255, 1)}, 0, 0);
    }

    private static void seeds() {
        LightCoins x = new LightCoins();
        Check.row("26 nobody there", new long[] {x.seeds(0), x.seeds(1)}, 0, 0);
        Check.read(x, "tale light 1;tale light 0;");
        Check.row("26 none is needed", new long[] {x.seeds(0), x.seeds(1)}, 0, 0);
        Check.read(x, "tale light 2;tale light 2;tale light 2;tale light 2;");
        Check.row("26 two, the least set", new long[] {x.seeds(0), x.seeds(1)}, 2, 3);
        Check.read(x, "tale light 1;tale light 8;tale light 2;tale light 8;");
        Check.row("26 those who never would", new long[] {x.seeds(0), x.seeds(1)}, 2, 10);
        Check.read(x, "tale light 8;".repeat(8));
        Check.row("26 all", new long[] {x.seeds(0), x.seeds(1)}, 8, 255);
        Check.row("26 BAD", new long[] {x.seeds(-1), x.seeds(2)}, -1, -1);
    }
}
