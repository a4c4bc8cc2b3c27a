/** Promises 27 to 31: labour by kinds and the trace, images, counts. */
public final class KindsTest {
    public static void main(String[] args) {
        labour();
        refusedLabour();
        images();
        refusedImages();
        count();
        Check.finish();
    }

    private static void labour() {
        LightCoins x = Check.townOf("tale light 0;some 7 heavy 6;look light 3;");
        x.purse(1, 0, 4);
        x.purse(1, 2, 3);
        x.purse(1, 3, 2);
        x.purse(1, 9, 1);
        long[] labours = {10, 11, 25, 17, 6, 12, 16};
        long[] traces = {1, 11, 101, 1101, 10001, 110001, 1000001};
        long trace = 0;
        for (int kind = 0; kind <= 6; kind++) {
            Check.due("27 kind " + kind, x.labour(kind, 1), labours[kind]);
            trace += traces[kind];
            Check.due("31 after kind " + kind, x.trace(), trace);
        }
        x.tune(0, 9);
        Check.due("27 none above the limit", x.labour(2, 1), 10);
        x.tune(0, 0);
        x.tune(1, 99);
        Check.due("27 six above it", x.labour(2, 1), 10 + 99 * 6);
        x.purse(2, 5, 8);
        Check.due("27 X of look is 0", x.labour(3, 2), 0);
        Check.due("27 X of tale is 0", x.labour(3, 0), 0);
        Check.due("27 T of 3", x.labour(6, 2), 11);
        Check.due("27 an empty purse", x.labour(1, 0), 1);
    }

    private static void refusedLabour() {
        LightCoins x = Check.townOf("tale light 0;");
        Check.row("27 BAD", new long[] {x.labour(-1, 0), x.labour(7, 0), x.labour(0, -1), x.labour(0, 1)}, -1, -1, -1, -1);
        Check.due("31 no body was asked", x.trace(), 0);
    }

    private static void images() {
        LightCoins x = Check.townOf("tale light 0;tale light 0;");
        x.purse(0, 3, 5);
        x.lot(123);
        x.year(5);
        Check.due("28 coins", x.keep(0), 5);
        x.purse(1, 9, 7);
        x.lot(456);
        x.year(5);
        x.tune(0, 8);
        x.law(2, 0, 9);
        x.labour(0, 0);
        x.type('t', 1);
        Check.due("28 coins", x.keep(1), 12);
        x.run(4);
        Check.due("29 coins", x.back(0), 5);
        Check.row("29 as it was", new long[] {x.coins(0, 3), x.coins(1, 9), x.count(2), x.lot(1)}, 5, 0, 5, 123);
        Check.row("29 nothing else", new long[] {x.count(3), x.count(4), x.trace(), x.tune(0, 8), x.law(2, 0, 9)}, 1, 4, 1, 8, 9);
        Check.due("29 the other", x.back(1), 12);
        Check.row("29 as it was", new long[] {x.coins(0, 3), x.coins(1, 9), x.count(2), x.lot(1)}, 5, 7, 10, 456);
        x.purse(0, 3, 0);
        Check.due("29 an image stays as it is", x.back(0), 5);
        x.purse(0, 3, 44);
        Check.due("29 and again", x.back(0), 5);
        x.purse(0, 3, 44);
        Check.due("28 kept anew", x.keep(0), 44);
        x.purse(0, 3, 0);
        Check.due("29 the newer one", x.back(0), 44);
    }

    private static void refusedImages() {
        LightCoins x = Check.townOf("tale light 0;");
        x.purse(0, 0, 2);
        Check.row("28 BAD", new long[] {x.keep(-1), x.keep(2)}, -1, -1);
        Check.row("29 BAD", new long[] {x.back(-1), x.back(2)}, -1, -1);
        Check.row("29 STATE", new long[] {x.back(0), x.back(1)}, -2, -2);
        x.keep(1);
        Check.row("29 only the one", new long[] {x.back(0), x.back(1)}, -2, 2);
        Check.due("29 coins stay", x.coins(0, 0), 2);
    }

    private static void count() {
        LightCoins x = Check.townOf("tale light 0;tale light 0;tale light 0;");
        x.purse(0, 0, 99);
        x.purse(2, 9, 98);
        x.year(12);
        x.type(0, 7);
        x.run(9);
        Check.row("30", new long[] {x.count(0), x.count(1), x.count(2), x.count(3), x.count(4), x.count(5)}, 3, 197, 12, 7, 9, 990 + 98);
        Check.row("30 BAD", new long[] {x.count(-1), x.count(6)}, -1, -1);
        for (int p = 0; p < 3; p++) {
            for (int w = 0; w <= 9; w++) {
                x.purse(p, w, 99);
            }
        }
        Check.row("30 all that three can have", new long[] {x.count(1), x.count(5)}, 2970, 16335);
    }
}
