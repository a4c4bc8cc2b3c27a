/** Promises 10 to 12: meetings by lots. */
public final class MeetingsTest {
    public static void main(String[] args) {
        tooFew();
        whoMeets();
        whatIsPaid();
        whenTheyLook();
        fullPurse();
        run();
        met();
        Check.finish();
    }

    private static void tooFew() {
        LightCoins x = Check.townOf("tale light 0;");
        x.purse(0, 0, 5);
        Check.due("10 one alone", x.meet(), LightCoins.STATE);
        Check.due("11 one alone", x.run(1), LightCoins.STATE);
        Check.due("11 BAD ahead of STATE", x.run(0), LightCoins.BAD);
        Check.due("10 the lot stays", x.lot(1), 1);
        Check.due("10 no meeting", x.count(4), 0);
        Check.due("12 none", x.met(0), LightCoins.NONE);
    }

    /** By hand: 1 goes to 1103527590 (draw 16838), then to 2524885223 (38526), then to 662824084 (10113). */
    private static void whoMeets() {
        LightCoins x = Check.townOf("tale light 0;".repeat(5));
        x.purse(3, 4, 1);
        Check.due("10 paid", x.meet(), 4);
        Check.due("12 payer 16838 by 5", x.met(0), 3);
        Check.due("12 taker 3 + 1 + 38526 by 4", x.met(1), (3 + 1 + 38526 % 4) % 5);
        Check.due("10 the taker has it", x.coins(1, 4), 1);
        Check.due("10 the payer has it no more", x.coins(3, 4), 0);
        Check.due("10 the lot went on twice", x.lot(1), (int) 2524885223L);
        Check.read(x, "some 5 light 0;".repeat(5));
        x.meet();
        Check.due("10 the lot went on three times", x.lot(1), 662824084);
        Check.due("12 10113 by 10 is 3, below 5", x.met(2), 1);
        Check.read(x, "some 3 light 0;".repeat(5));
        x.meet();
        Check.due("12 3 is not below 3", x.met(2), 0);
        x.lot(-1);
        x.meet();
        Check.holds("10 draws of a lot below 0 are none below 0", x.met(0) >= 0 && x.met(1) >= 0);
    }

    private static void whatIsPaid() {
        Check.due("10 light, by tale", paidFirst("tale light 0;", 2), 7);
        Check.due("10 heavy, by tale", paidFirst("tale heavy 0;", 2), 1);
        Check.due("10 light, by look", paidFirst("look light 0;", 5), 5);
        Check.due("10 heavy, by look", paidFirst("look heavy 0;", 5), 1);
        Check.due("10 light, limit below the next", paidFirst("look light 0;", 4), 1);
        Check.due("10 light, limit of all", paidFirst("look light 0;", 9), 7);
        Check.due("10 no coin is heavy enough", paidFirst("look light 0;", 0), LightCoins.NONE);
        Check.due("10 no coin is heavy enough", paidFirst("look heavy 0;", 0), LightCoins.NONE);
        Check.row("10 the only one", new long[] {onlyOne("tale light 0;", 0), onlyOne("tale heavy 0;", 0), onlyOne("tale light 0;", 9),
            onlyOne("tale heavy 0;", 9), onlyOne("look heavy 0;", 2), onlyOne("look light 0;", 2), onlyOne("look heavy 0;", 3)},
            0, 0, 9, 9, 2, 2, LightCoins.NONE);
        Check.due("10 some 0", paidFirst("some 0 light 0;", 0), 7);
        Check.due("10 some 10", paidFirst("some 10 light 0;", 1), 1);
    }

    private static int onlyOne(String item, int w) {
        LightCoins x = Check.townOf(item.repeat(2));
        x.purse(0, w, 1);
        x.purse(1, w, 1);
        return x.meet();
    }

    private static int paidFirst(String item, int limit) {
        LightCoins x = Check.townOf(item.repeat(3));
        x.tune(0, limit);
        for (int p = 0; p < 3; p++) {
            x.purse(p, 1, 1);
            x.purse(p, 5, 1);
            x.purse(p, 7, 1);
        }
        int paid = x.meet();
        Check.due("12 what was paid", x.met(3), paid);
        Check.due("10 coins stay in town", x.count(1), 9);
        if (paid != LightCoins.NONE) {
            Check.due("10 payer", x.coins(x.met(0), paid), 0);
            Check.due("10 taker", x.coins(x.met(1), paid), 2);
        }
        return paid;
    }

    private static void whenTheyLook() {
        looked("tale light 0;", 0);
        looked("look light 0;", 1);
        looked("some 0 light 0;", 0);
        looked("some 10 light 0;", 1);
        LightCoins x = Check.townOf("some 5 light 0;".repeat(3));
        long lot = 1;
        for (int i = 0; i < 60; i++) {
            x.meet();
            for (int times = 0; times < 3; times++) {
                lot = (lot * 1103515245L + 12345L) % 4294967296L;
            }
            Check.due("12 looked by lot", x.met(2), lot / 65536 % 10 < 5 ? 1 : 0);
        }
    }

    private static void looked(String item, int want) {
        LightCoins x = Check.townOf(item.repeat(4));
        for (int i = 0; i < 20; i++) {
            Check.due("10 nothing to pay", x.meet(), LightCoins.NONE);
            Check.due("12 looked " + item, x.met(2), want);
            Check.holds("12 two meet", x.met(0) != x.met(1));
        }
    }

    private static void fullPurse() {
        LightCoins x = Check.townOf("tale light 0;tale light 0;");
        for (int p = 0; p < 2; p++) {
            x.purse(p, 9, 99);
            x.purse(p, 3, 1);
        }
        Check.due("10 the taker has 99 of it", x.meet(), LightCoins.NONE);
        Check.due("12 the meeting was", x.count(4), 1);
        Check.due("10 nothing lighter or heavier instead", x.coins(0, 3) * 2 + x.coins(1, 3), 3);
        Check.due("10 all stay", x.count(1), 200);
        x.purse(x.met(1), 9, 98);
        x.lot(1);
        Check.due("10 room for one", x.meet(), 9);
        Check.due("10 99 then", x.coins(x.met(1), 9), 99);
    }

    private static void run() {
        LightCoins x = Check.townOf("tale light 0;look heavy 0;some 4 light 0;");
        LightCoins y = Check.townOf("tale light 0;look heavy 0;some 4 light 0;");
        for (int w = 0; w < 10; w++) {
            x.purse(0, w, 2);
            y.purse(0, w, 2);
        }
        int paid = 0;
        for (int i = 0; i < 50; i++) {
            paid += y.meet() == LightCoins.NONE ? 0 : 1;
        }
        Check.due("11 as so many meet()", x.run(50), paid);
        Check.holds("11 all is as with meet()", Check.stateOf(x, 3).equals(Check.stateOf(y, 3)));
        Check.due("11 0", x.run(0), LightCoins.BAD);
        Check.due("11 501", x.run(501), LightCoins.BAD);
        Check.holds("11 nothing changed", Check.stateOf(x, 3).equals(Check.stateOf(y, 3)));
        Check.holds("11 500", x.run(500) >= 0);
        Check.due("11 count", x.count(4), 550);
        Check.holds("11 1", x.run(1) <= 1);
        Check.due("11 count", x.count(4), 551);
    }

    private static void met() {
        LightCoins x = Check.townOf("tale light 0;tale light 0;");
        Check.due("12 ahead of any", x.met(3), LightCoins.NONE);
        Check.due("12 BAD ahead of any", x.met(4), LightCoins.BAD);
        Check.due("12 BAD ahead of any", x.met(-1), LightCoins.BAD);
        x.keep(0);
        x.meet();
        int payer = x.met(0);
        x.back(0);
        Check.due("12 an image doesn't hold it", x.met(0), payer);
        Check.due("12 BAD", x.met(4), LightCoins.BAD);
        Check.due("12 BAD", x.met(-1), LightCoins.BAD);
    }
}
