/** Promises 1 to 9: a new object, texts, towns, purses, tunes, the lot. */
public final class TownsTest {
    public static void main(String[] args) {
        newObject();
        type();
        clear();
        townsRead();
        faults();
        townReadAnew();
        person();
        purse();
        coins();
        tune();
        lot();
        Check.finish();
    }

    private static void newObject() {
        LightCoins x = new LightCoins();
        for (int what = 0; what <= 5; what++) {
            Check.due("1 count(" + what + ")", x.count(what), 0);
        }
        for (int what = 0; what <= 3; what++) {
            Check.due("1 met(" + what + ")", x.met(what), LightCoins.NONE);
        }
        Check.due("1 lot", x.lot(5), 1);
        Check.due("1 trace", x.trace(), 0);
        Check.due("1 person(0, 0)", x.person(0, 0), LightCoins.BAD);
        Check.due("1 coins(-1, 0)", x.coins(-1, 0), 0);
        Check.due("1 back(0)", x.back(0), LightCoins.STATE);
        Check.due("1 back(1)", x.back(1), LightCoins.STATE);
        int[] tunes = {2, 5, 20, 1, 1, 20};
        for (int what = 0; what < tunes.length; what++) {
            Check.due("1 tune " + what, x.tune(what, 1), tunes[what]);
        }
        for (int k = 0; k <= 8; k++) {
            for (int what = 0; what <= 2; what++) {
                Check.due("1 law " + k + " " + what, x.law(k, what, 1), 0);
            }
        }
    }

    private static void type() {
        LightCoins x = new LightCoins();
        Check.due("2 n = 0", x.type(1, 0), LightCoins.BAD);
        Check.due("2 n = -1", x.type(1, -1), LightCoins.BAD);
        Check.due("2 n = 9", x.type(1, 9), LightCoins.BAD);
        Check.due("2 nothing came", x.count(3), 0);
        // The upper bytes of v are left out: " tal" is "tal" for n = 3.
        Check.due("2 the lowest 3", x.type(0x7874616CL, 3), 3);
        Check.due("2 one", x.type(0x65L, 1), 4);
        Check.due("2 eight", x.type(0x206C696768742030L, 8), 12);
        Check.due("2 negative v", x.type(-256L + ';', 1), 13);
        Check.due("2 town", x.town(), 1);
        for (int i = 0; i < 37; i++) {
            x.type(0, 8);
        }
        Check.due("2 296 bytes", x.count(3), 296);
        Check.due("2 five too many", x.type(0, 5), LightCoins.FULL);
        Check.due("2 still 296", x.count(3), 296);
        Check.due("2 BAD ahead of FULL", x.type(0, 9), LightCoins.BAD);
        Check.due("2 up to 300", x.type(0, 4), 300);
        Check.due("2 one too many", x.type(0, 1), LightCoins.FULL);
    }

    private static void clear() {
        LightCoins x = new LightCoins();
        Check.due("3 none", x.clear(), 0);
        Check.typeWhole(x, "tale");
        Check.due("3 four", x.clear(), 4);
        Check.due("3 none again", x.clear(), 0);
        Check.due("3 count", x.count(3), 0);
        Check.typeWhole(x, "look light 3;");
        Check.due("3 the text begins anew", x.town(), 1);
    }

    private static void townsRead() {
        LightCoins x = new LightCoins();
        Check.due("4 nobody", Check.read(x, ""), 0);
        Check.due("4 blanks alone", Check.read(x, "    "), 0);
        Check.due("4 one", Check.read(x, "tale light 0;"), 1);
        Check.due("4 the text is empty then", x.count(3), 0);
        Check.due("4 blanks all over", Check.read(x, "  some   10  heavy  8  ; look  light 0 ;  "), 2);
        Check.due("4 X of 10", x.person(0, 1), 10);
        Check.due("4 tokens need no blanks where they end by themselves", Check.read(x, "some3light2;some 4heavy 0;"), 2);
        Check.due("4 X of 3", x.person(0, 1), 3);
        Check.due("4 T of 2", x.person(0, 3), 2);
        Check.due("4 X of 4", x.person(1, 1), 4);
        Check.due("4 eight", Check.read(x, "tale light 0;".repeat(8) + "  "), 8);
    }

    private static void faults() {
        fault("tale", 4);
        fault("tale  ", 6);
        fault("tale light", 10);
        fault("tale light 1", 12);
        fault("some", 4);
        fault("tale light 9;", 11);
        fault("tale light 8 8;", 13);
        fault("tale 3;", 5);
        fault("tale look 3;", 5);
        fault("tale ; 3;", 5);
        fault("look 3 heavy 1;", 5);
        fault("some heavy 1;", 5);
        fault("some 11 light 1;", 5);
        fault("some 05 light 1;", 5);
        fault("some 00 light 1;", 5);
        fault("tale light 01;", 11);
        fault("tale light 100;", 11);
        fault("tale light 4294967296;", 11);
        fault("tale light 99;", 11);
        fault("tales light 1;", 0);
        fault("tal light 1;", 0);
        fault("talE light 1;", 0);
        fault("gale light 1;", 0);
        fault("talez light 1;", 0);
        fault("atale light 1;", 0);
        fault("talelight 1;", 0);
        fault("tale Light 1;", 5);
        fault("tale! light 1;", 4);
        fault("light tale 1;", 0);
        fault("1;", 0);
        fault(";", 0);
        fault(" ;", 1);
        fault("tale light 1;;", 13);
        fault("tale light 1; heavy", 14);
        fault("tale\tlight 1;", 4);
        fault("\n", 0);
        fault("\u00c8", 0);
        fault("tale light \u0000", 11);
        fault("tale light -1;", 11);
        fault("tale light 0;".repeat(9), 104);
        fault("tale light 0;".repeat(8) + "  ;", 106);
        fault("tale light 0;".repeat(8) + " ?", 105);
        fault(" ".repeat(299) + "x", 299);
        fault(" ".repeat(296) + "tale", 300);
        fault(" ".repeat(288) + "tale light 1", 300);
    }

    /** A town stands already: the fault leaves it, its purses and the text as they are. */
    private static void fault(String text, int place) {
        LightCoins x = Check.townOf("some 7 heavy 5;look light 1;");
        x.purse(0, 3, 9);
        x.meet();
        x.keep(0);
        Check.typeWhole(x, text);
        String before = Check.stateOf(x, 2);
        Check.due("4 fault of \"" + text + "\"", x.town(), -10 - place);
        Check.holds("4 nothing changes at \"" + text + "\"", before.equals(Check.stateOf(x, 2)));
        Check.due("4 the text stays", x.clear(), text.length());
        Check.due("4 the image stays", x.back(0), 9);
    }

    private static void townReadAnew() {
        LightCoins x = Check.townOf("tale light 0;tale light 0;");
        x.purse(0, 0, 9);
        x.purse(1, 0, 9);
        x.year(7);
        x.tune(0, 6);
        x.law(1, 1, 4);
        x.run(3);
        x.labour(0, 0);
        x.keep(0);
        x.keep(1);
        int lot = x.lot(77);
        Check.holds("4 the lot went on", lot != 1);
        Check.due("4 anew", Check.read(x, "look heavy 1;look heavy 2;"), 2);
        Check.due("4 no coins", x.count(1), 0);
        Check.due("4 no image 0", x.back(0), LightCoins.STATE);
        Check.due("4 no image 1", x.back(1), LightCoins.STATE);
        Check.due("4 no meetings", x.count(4), 0);
        for (int what = 0; what <= 3; what++) {
            Check.due("4 no latest meeting", x.met(what), LightCoins.NONE);
        }
        Check.due("4 the year stays", x.count(2), 7);
        Check.due("4 the lot stays", x.lot(1), 77);
        Check.due("4 tunes stay", x.tune(0, 1), 6);
        Check.due("4 laws stay", x.law(1, 1, 0), 4);
        Check.due("4 the trace stays", x.trace(), 1);
    }

    private static void person() {
        LightCoins x = Check.townOf("tale light 0;look heavy 8;some 0 light 3;some 10 heavy 4;");
        long[][] people = {{0, 0, 0, 0, 0}, {1, 0, 1, 8, 5}, {2, 0, 0, 3, 0}, {2, 10, 1, 4, 0}};
        x.purse(1, 2, 2);
        x.purse(1, 9, 3);
        for (int p = 0; p < 4; p++) {
            for (int what = 0; what <= 4; what++) {
                Check.due("5 person(" + p + ", " + what + ")", x.person(p, what), people[p][what]);
            }
        }
        Check.due("5 p = -1", x.person(-1, 0), LightCoins.BAD);
        Check.due("5 p = 4", x.person(4, 0), LightCoins.BAD);
        Check.due("5 what = -1", x.person(0, -1), LightCoins.BAD);
        Check.due("5 what = 5", x.person(0, 5), LightCoins.BAD);
        // X of an earlier "some" in the same place is not left behind.
        Check.due("5 X of 9", Check.read(x, "some 9 light 0;") * x.person(0, 1), 9);
        Check.read(x, "tale light 0;");
        Check.read(x, "look light 0;");
        Check.due("5 X of look", x.person(0, 1), 0);
    }

    private static void purse() {
        LightCoins x = Check.townOf("tale light 0;tale light 0;");
        Check.due("6 first", x.purse(1, 9, 99), 0);
        Check.due("6 again", x.purse(1, 9, 4), 99);
        Check.due("6 none", x.purse(1, 9, 0), 4);
        Check.due("6 was none", x.purse(1, 0, 3), 0);
        Check.due("6 others are as they were", x.count(1), 3);
        int[][] bad = {{-1, 0, 1}, {2, 0, 1}, {0, -1, 1}, {0, 10, 1}, {0, 0, -1}, {0, 0, 100},
            {Integer.MIN_VALUE, 0, 1}, {Integer.MAX_VALUE, 0, 1}};
        for (int[] b : bad) {
            Check.due("6 " + b[0] + " " + b[1] + " " + b[2], x.purse(b[0], b[1], b[2]), LightCoins.BAD);
        }
        Check.due("6 nothing changed", x.count(1), 3);
    }

    private static void coins() {
        LightCoins x = Check.townOf("tale light 0;tale light 0;tale light 0;");
        x.purse(0, 4, 5);
        x.purse(1, 4, 7);
        x.purse(2, 5, 9);
        Check.row("7", new long[] {x.coins(0, 4), x.coins(1, 4), x.coins(2, 4), x.coins(-1, 4), x.coins(-1, 5), x.coins(0, 5)},
            5, 7, 0, 12, 9, 0);
        Check.row("7 BAD", new long[] {x.coins(-2, 0), x.coins(3, 0), x.coins(0, -1), x.coins(0, 10), x.coins(-1, 10), x.coins(-1, -1)},
            -1, -1, -1, -1, -1, -1);
    }

    private static void tune() {
        LightCoins x = new LightCoins();
        int[] least = {0, 0, 0, 0, 0, 1};
        int[] most = {9, 99, 99, 10, 20, 99};
        int[] first = {2, 5, 20, 1, 1, 20};
        for (int what = 0; what < 6; what++) {
            Check.due("8 below", x.tune(what, least[what] - 1), LightCoins.BAD);
            Check.due("8 above", x.tune(what, most[what] + 1), LightCoins.BAD);
            Check.due("8 least", x.tune(what, least[what]), first[what]);
            Check.due("8 most", x.tune(what, most[what]), least[what]);
            Check.due("8 was most", x.tune(what, most[what]), most[what]);
        }
        Check.due("8 what = -1", x.tune(-1, 1), LightCoins.BAD);
        Check.due("8 what = 6", x.tune(6, 1), LightCoins.BAD);
    }

    private static void lot() {
        LightCoins x = new LightCoins();
        Check.due("9 at first", x.lot(Integer.MIN_VALUE), 1);
        Check.due("9 least", x.lot(Integer.MAX_VALUE), Integer.MIN_VALUE);
        Check.due("9 most", x.lot(-1), Integer.MAX_VALUE);
        Check.due("9 -1", x.lot(0), -1);
    }
}
