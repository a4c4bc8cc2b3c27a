/** Promises 1 to 9, and the terms they use: the last that is taken, the first that is refused. */
public final class TownEdgesTest {
    private static final String ITEM = "tale light 0;";

    public static void main(String[] args) {
        noPeopleAtFirst();
        objectsAreApart();
        bytesOfAType();
        textOf300();
        clearing();
        emptyTowns();
        eightItems();
        numbersOfAnItem();
        numbersAsTokens();
        bytesThatBeginNone();
        blanksAre32Alone();
        wordsThatAreNone();
        tokensThatCantStand();
        theFirstFaultIsTold();
        textsThatEndTooEarly();
        faultsChangeNothing();
        aTownReadAnew();
        persons();
        purses();
        coins();
        tunes();
        lots();
        Check.finish();
    }

    /** "PEOPLE 0 .. 7 (none at first)": whatever is asked of one of them is BAD. */
    private static void noPeopleAtFirst() {
        for (int p = 0; p <= 7; p++) {
            LightCoins x = new LightCoins();
            Check.row("1 nobody is " + p, new long[] {x.person(p, 0), x.purse(p, 0, 0), x.coins(p, 0), x.changer(p, 0, 0), x.labour(0, p)},
                -1, -1, -1, -1, -1);
        }
        LightCoins x = new LightCoins();
        for (int w = 0; w <= 9; w++) {
            Check.due("7 nobody's coins", x.coins(-1, w), 0);
        }
        Check.row("1 nothing to tell of", new long[] {x.meet(), x.run(1), x.met(0), x.rests(1), x.goes(1, 0), x.tip(1), x.out(1, 0), x.shabby(100)},
            -2, -2, -9, -2, -2, -2, -2, -9);
        Check.row("1 nothing to tell of", new long[] {x.gain(1, 0, 0, 0), x.mean(0), x.mean(1)}, LightCoins.NO, LightCoins.NO, LightCoins.NO);
        Check.row("1 nobody's first day", new long[] {x.first(255, 0), x.first(255, 1), x.seeds(0), x.seeds(1)}, 0, 0, 0, 0);
        Check.due("1 the lot is 1", x.lot(1), 1);
    }

    private static void objectsAreApart() {
        Check.busy();
        Check.holds("1 a new object is as new beside one in use", Check.wholeOf(new LightCoins()).equals(Check.wholeOf(new LightCoins())));
        Check.due("1 the lot of another", new LightCoins().lot(0), 1);
    }

    /** "The lowest n (1 .. 8) bytes of v, the highest of them first". */
    private static void bytesOfAType() {
        Check.bounds("2 n", Check::busy, (x, n) -> x.type(0x2020202020202020L, n), 1, 8, LightCoins.BAD);
        for (int n = 1; n <= 8; n++) {
            LightCoins x = new LightCoins();
            int typed = 0;
            for (int at = 0; at < ITEM.length(); at += n) {
                typed += n;
                Check.due("2 how many it has", x.type(lowestBytes(at, n), n), typed);
            }
            Check.due("2 the lowest " + n + ", the highest first", x.town(), 1);
            Check.due("2 a byte that is no token", x.type(-1L, n), n);
            Check.due("2 is byte 255", x.town(), -10);
            x.clear();
            x.type('x', n);
            Check.due("2 bytes of 0 ahead come, too", x.town(), -10);
        }
        LightCoins x = new LightCoins();
        x.type(0x2020202020202080L, 8);
        Check.due("2 the lowest comes last", x.town(), -10 - 7);
        x.clear();
        x.type(0x8020202020202020L, 8);
        Check.due("2 the highest of eight comes first", x.town(), -10);
        x.clear();
        x.type(0x8020202020202020L, 7);
        Check.due("2 it is left out of seven", x.town(), 0);
    }

    /** n bytes of an item (blanks behind its end); the bytes above them would be a fault, had they come, too. */
    private static long lowestBytes(int from, int n) {
        long v = -1;
        for (int i = from; i < from + n; i++) {
            v = v << 8 | (i < ITEM.length() ? ITEM.charAt(i) : ' ');
        }
        return v;
    }

    /** "a text (300 bytes at most)". */
    private static void textOf300() {
        for (int n = 1; n <= 8; n++) {
            int bytes = n;
            LightCoins x = blanks(300 - n);
            Check.due("2 up to 300 by " + n, x.type(0, n), 300);
            Check.changesNothing("2 301 by " + n, () -> blanks(301 - bytes), y -> y.type(0x2020202020202020L, bytes), LightCoins.FULL);
        }
        Check.changesNothing("2 a full text", () -> blanks(300), x -> x.type(' ', 1), LightCoins.FULL);
        Check.changesNothing("2 BAD ahead of FULL, 0", () -> blanks(300), x -> x.type(' ', 0), LightCoins.BAD);
        Check.changesNothing("2 BAD ahead of FULL, 9", () -> blanks(300), x -> x.type(' ', 9), LightCoins.BAD);
        LightCoins x = blanks(296);
        Check.due("2 none of five bytes came", x.type(0, 5), LightCoins.FULL);
        Check.due("2 four do", x.type(0x20202020L, 4), 300);
        Check.due("4 a text of 300 is read whole", x.town(), 0);
        LightCoins y = blanks(300 - ITEM.length());
        Check.due("2 an item at the end", Check.typeWhole(y, ITEM), 300);
        Check.due("4 the last of 300 bytes counts", y.town(), 1);
        Check.due("2 then there is room again", y.type(' ', 1), 1);
        LightCoins z = blanks(300);
        Check.due("3 300 bytes", z.clear(), 300);
        Check.due("2 then there is room again", z.type(0x20, 8), 8);
    }

    private static LightCoins blanks(int bytes) {
        LightCoins x = new LightCoins();
        Check.typeWhole(x, " ".repeat(bytes));
        return x;
    }

    private static void clearing() {
        Check.changesNothing("3 an empty text", () -> Check.townOf(ITEM), x -> x.clear(), 0);
        LightCoins x = Check.busy();
        LightCoins y = Check.busy();
        Check.due("3 thirteen bytes", x.clear(), 13);
        Check.due("3 none are left", x.count(3), 0);
        Check.typeWhole(x, "look heavy 6;");
        Check.holds("3 nothing but the text", Check.wholeOf(x).equals(Check.wholeOf(y)));
    }

    /** No ITEM at all is a TOWN of nobody. */
    private static void emptyTowns() {
        LightCoins x = Check.busy();
        x.clear();
        Check.due("4 an empty text", x.town(), 0);
        Check.row("4 nobody is left", new long[] {x.count(0), x.person(0, 0), x.count(1), x.meet()}, 0, -1, 0, -2);
        Check.due("4 blanks alone", Check.read(x, " "), 0);
        Check.due("4 the text is empty then", x.count(3), 0);
    }

    /** "ITEMS, 8 at most"; FAULT: "a ninth ITEM's". */
    private static void eightItems() {
        for (int items = 1; items <= 8; items++) {
            LightCoins x = Check.townOf(ITEM.repeat(items));
            Check.due("4 people", x.count(0), items);
            Check.due("5 the last", x.person(items - 1, 0), 0);
            Check.due("5 none behind the last", x.person(items, 0), LightCoins.BAD);
        }
        Check.due("4 eight and blanks", Check.read(new LightCoins(), ITEM.repeat(8) + " ".repeat(196)), 8);
        fault(ITEM.repeat(9), 8 * 13);
        fault(ITEM.repeat(8) + "   look", 8 * 13 + 3);
        fault(ITEM.repeat(8) + ";", 8 * 13);
        fault(ITEM.repeat(8) + "7", 8 * 13);
        fault(ITEM.repeat(8) + " 100", 8 * 13 + 1);
        fault(ITEM.repeat(8) + " wort", 8 * 13 + 1);
        fault(ITEM.repeat(8) + " #", 8 * 13 + 1);
        fault(ITEM.repeat(23), 8 * 13);
        // A fault in the eighth comes first.
        fault(ITEM.repeat(7) + "tale light 9;" + ITEM, 7 * 13 + 11);
    }

    /** "X tenths .., 0 .. 10"; "T 0 .. 8"; FAULT: "a NUMBER beyond what it may be, too". */
    private static void numbersOfAnItem() {
        for (int n = 0; n <= 99; n++) {
            if (n <= 10) {
                LightCoins x = Check.townOf("some " + n + " light 0;");
                Check.row("4 X of " + n, new long[] {x.count(0), x.person(0, 1)}, 1, n);
            } else {
                fault("some " + n + " light 0;", 5);
            }
            if (n <= 8) {
                LightCoins x = Check.townOf("look heavy " + n + ";");
                Check.row("4 T of " + n, new long[] {x.count(0), x.person(0, 3)}, 1, n);
            } else {
                fault("look heavy " + n + ";", 11);
            }
        }
    }

    /** "a NUMBER above 99 or with a 0 ahead of others, that TOKEN's". */
    private static void numbersAsTokens() {
        String[] wrong = {"00", "01", "08", "010", "000", "0".repeat(200), "100", "101", "110", "999", "1000", "256", "264", "65536", "2147483648",
            "4294967296", "4294967298", "18446744073709551616", "1" + "0".repeat(200), "9".repeat(250)};
        for (String number : wrong) {
            fault("tale light " + number + ";", 11);
            fault("some " + number + " light 0;", 5);
            // Where no number can stand either, its place is the same.
            fault(number, 0);
            fault("tale light 1;" + number, 13);
        }
    }

    /** "of a byte that begins none .. that TOKEN's": all but letters a .. z, digits, ; and blanks. */
    private static void bytesThatBeginNone() {
        for (int b = 0; b <= 255; b++) {
            boolean begins = b >= 'a' && b <= 'z' || b >= '0' && b <= '9' || b == ';' || b == ' ';
            String sign = String.valueOf((char) b);
            if (!begins) {
                fault(sign, 0);
                fault("tale" + sign + " light 0;", 4);
                fault("tale light" + sign + "0;", 10);
                fault("tale light 0" + sign + ";", 12);
                fault(ITEM + " " + sign, 14);
            } else if (b != ' ') {
                // These begin a token, but none that can stand first, or no whole word.
                fault(sign, 0);
            }
        }
    }

    /** "blanks (32) between TOKENS". */
    private static void blanksAre32Alone() {
        Check.due("4 a blank ahead of and behind each token", Check.read(new LightCoins(), " some 3 heavy 4 ; "), 1);
        Check.due("4 many blanks", Check.read(new LightCoins(), "    tale     light     0    ;     look   heavy    1    ;    "), 2);
        Check.due("4 none where a token ends by itself", Check.read(new LightCoins(), "some10heavy8;some0light0;"), 2);
        for (int b : new int[] {0, 9, 10, 11, 12, 13, 31, 33, 127, 160}) {
            fault("tale" + (char) b + "light 0;", 4);
        }
        // A blank parts a word and a number.
        fault("ta le light 0;", 0);
        fault("some 1 0 light 0;", 7);
        fault("tale light 0 0;", 13);
    }

    /** "a word that is none of these .. that TOKEN's". */
    private static void wordsThatAreNone() {
        String[] words = {"a", "z", "t", "tal", "tales", "talee", "atale", "talf", "uale", "loo", "looks", "lool", "som", "somee", "someone", "soma",
            "ligh", "lights", "lighu", "heav", "heavyy", "heavz", "talelight", "lightheavy", "x".repeat(287)};
        for (String word : words) {
            fault(word, 0);
            fault(" " + word + " light 0;", 1);
            if (word.length() < 200) {
                fault("tale " + word + " 0;", 5);
                fault("tale light " + word, 11);
            }
        }
        for (char c = 'a'; c <= 'z'; c++) {
            fault("tale" + c + " light 0;", 0);
            fault(c + "tale light 0;", 0);
            fault("tale light" + c + " 0;", 5);
        }
        fault("Tale light 0;", 0);
        fault("taLe light 0;", 0);
        fault("tale LIGHT 0;", 5);
    }

    /** "the first byte of the first TOKEN that can't stand there": each place of an item, each token. */
    private static void tokensThatCantStand() {
        String[] tokens = {"tale", "look", "some", "light", "heavy", "3", ";"};
        String[] ahead = {"", "tale ", "some ", "some 3 ", "look heavy ", "look heavy 3 ", "look heavy 3;"};
        String[] mayStand = {"tale look some", "light heavy", "3", "light heavy", "3", ";", "tale look some"};
        for (int place = 0; place < ahead.length; place++) {
            for (String token : tokens) {
                String text = ahead[place] + token;
                if (!mayStand[place].contains(token)) {
                    fault(text, ahead[place].length());
                    fault(text + " light 1; tale", ahead[place].length());
                } else if (!token.equals(";")) {
                    fault(text, text.length());
                }
            }
        }
        Check.due("4 the items of the places above", Check.read(new LightCoins(), "look heavy 3;some 3 light 3;tale heavy 3;"), 3);
        // X stands behind "some" alone.
        fault("tale 3 light 3;", 5);
        fault("look 0 light 3;", 5);
        fault("some light 3;", 5);
    }

    private static void theFirstFaultIsTold() {
        fault("tale light 9; ! 100 x", 11);
        fault("tale tale 100 ! x", 5);
        fault("some 11 heavy 9;", 5);
        fault("some 10 heavy 9;", 14);
        fault("tale light 1; ; !", 14);
        fault("! tale light 1;", 0);
        fault(ITEM + "look heavy x", 13 + 11);
    }

    /** "the text's length, if it ends too early": the blanks at its end count. */
    private static void textsThatEndTooEarly() {
        String[] early = {"tale", "look", "some", "some 3", "some 10 light", "tale heavy", "tale heavy 8", "look light 0"};
        for (String text : early) {
            for (int blanks : new int[] {0, 1, 7}) {
                fault(text + " ".repeat(blanks), text.length() + blanks);
                fault(ITEM + text + " ".repeat(blanks), 13 + text.length() + blanks);
            }
            fault(" ".repeat(300 - text.length()) + text, 300);
            fault(text + " ".repeat(300 - text.length()), 300);
        }
        fault(ITEM.repeat(7) + "tale light 0", 8 * 13 - 1);
    }

    /** "-10 less FAULT: nothing changes." A place is told of a town that stands already. */
    private static void fault(String text, int place) {
        LightCoins x = Check.townOf("some 7 heavy 5;");
        Check.typeWhole(x, text);
        Check.due("4 fault of \"" + text + "\"", x.town(), -10 - place);
        Check.row("4 the town and the text stay at \"" + text + "\"", new long[] {x.count(0), x.person(0, 1), x.person(0, 3), x.count(3)},
            1, 7, 5, text.length());
    }

    private static void faultsChangeNothing() {
        String[] texts = {"tale", "tale light 9;", "!", "tale light 0;tale light 0;tale light 0;;", ITEM.repeat(9), " 07"};
        for (String text : texts) {
            LightCoins x = withText(text);
            int answer = x.town();
            Check.holds("4 a fault", answer <= -10);
            Check.changesNothing("4 \"" + text + "\"", () -> withText(text), y -> y.town(), answer);
        }
        LightCoins x = withText("tale ");
        Check.due("4 a fault", x.town(), -10 - 5);
        Check.due("2 the text goes on where it ended", Check.typeWhole(x, "light 4;"), 13);
        Check.row("4 now it reads", new long[] {x.town(), x.person(0, 3)}, 1, 4);
    }

    private static LightCoins withText(String text) {
        LightCoins x = Check.busy();
        x.clear();
        Check.typeWhole(x, text);
        return x;
    }

    /** "A TOWN read anew: PURSES are empty, IMAGES are gone, there is no latest MEETING." */
    private static void aTownReadAnew() {
        LightCoins x = Check.busy();
        int lot = x.lot(0);
        x.lot(lot);
        long trace = x.trace();
        Check.holds("there was something to lose", x.count(1) > 0 && x.count(4) == 10 && x.met(0) >= 0 && trace > 0);
        Check.due("4 anew", x.town(), 1);
        Check.row("5 the new person", new long[] {x.person(0, 0), x.person(0, 1), x.person(0, 2), x.person(0, 3), x.person(0, 4)}, 1, 0, 1, 6, 0);
        Check.row("5 the others are gone", new long[] {x.person(1, 0), x.person(2, 0)}, -1, -1);
        for (int w = 0; w <= 9; w++) {
            Check.row("4 purses are empty", new long[] {x.coins(0, w), x.coins(-1, w)}, 0, 0);
        }
        Check.row("4 images are gone", new long[] {x.back(0), x.back(1)}, -2, -2);
        Check.row("4 no latest meeting", new long[] {x.met(0), x.met(1), x.met(2), x.met(3), x.count(4)}, -9, -9, -9, -9, 0);
        Check.row("4 nothing else", new long[] {x.count(2), x.lot(1), x.trace(), x.tune(0, 0), x.tune(1, 0), x.law(0, 1, 0), x.law(8, 2, 0)},
            8, lot, trace, 3, 7, 3, 9);
        // People who come back with a later town find no coins of the earlier ones.
        LightCoins full = Check.townOf(ITEM.repeat(8));
        for (int p = 0; p < 8; p++) {
            for (int w = 0; w <= 9; w++) {
                full.purse(p, w, 99);
            }
        }
        Check.due("4 one", Check.read(full, ITEM), 1);
        Check.due("4 eight again", Check.read(full, ITEM.repeat(8)), 8);
        for (int p = 0; p < 8; p++) {
            for (int w = 0; w <= 9; w++) {
                Check.due("4 purse " + p + ", weight " + w + " is empty", full.coins(p, w), 0);
            }
        }
    }

    private static void persons() {
        Check.bounds("5 p", Check::busy, (x, p) -> x.person(p, 0), 0, 2, LightCoins.BAD);
        Check.bounds("5 what", Check::busy, (x, what) -> x.person(2, what), 0, 4, LightCoins.BAD);
        LightCoins x = Check.townOf(ITEM.repeat(7) + "some 10 heavy 8;");
        Check.row("5 person 7", new long[] {x.person(7, 0), x.person(7, 1), x.person(7, 2), x.person(7, 3), x.person(7, 4), x.person(8, 0)},
            2, 10, 1, 8, 0, -1);
        for (int w = 0; w <= 9; w++) {
            x.purse(7, w, 99);
        }
        Check.row("5 all coins that one can have", new long[] {x.person(7, 4), x.person(6, 4)}, 990, 0);
        Check.read(x, "some 9 light 8;some 0 light 0;");
        Check.row("5 X of some", new long[] {x.person(0, 1), x.person(1, 1)}, 9, 0);
        Check.read(x, "tale light 8;look light 0;");
        Check.row("5 X of others is 0", new long[] {x.person(0, 1), x.person(1, 1)}, 0, 0);
    }

    /** "of each WEIGHT 0 .. 99 COINS"; "WEIGHTS 0 .. 9". */
    private static void purses() {
        Check.bounds("6 p", Check::busy, (x, p) -> x.purse(p, 1, 50), 0, 2, LightCoins.BAD);
        Check.bounds("6 w", Check::busy, (x, w) -> x.purse(1, w, 50), 0, 9, LightCoins.BAD);
        Check.bounds("6 n", Check::busy, (x, n) -> x.purse(1, 1, n), 0, 99, LightCoins.BAD);
        LightCoins x = Check.townOf(ITEM.repeat(8));
        Check.row("6 none to 99 and back", new long[] {x.purse(7, 9, 99), x.purse(7, 9, 99), x.purse(7, 9, 0), x.purse(7, 9, 0)}, 0, 99, 99, 0);
        Check.row("6 the first place", new long[] {x.purse(0, 0, 1), x.purse(0, 0, 99), x.coins(0, 0), x.count(1)}, 0, 1, 99, 99);
        Check.due("6 no person 8", x.purse(8, 0, 1), LightCoins.BAD);
        // Each place is its own: the last weight of one is not the first of the next.
        for (int p = 0; p < 8; p++) {
            for (int w = 0; w <= 9; w++) {
                x.purse(p, w, 10 * p + w);
            }
        }
        for (int p = 0; p < 8; p++) {
            for (int w = 0; w <= 9; w++) {
                Check.due("6 its own place", x.coins(p, w), 10 * p + w);
            }
        }
    }

    /** "(p = -1: of all)". */
    private static void coins() {
        Check.bounds("7 p", Check::busy, (x, p) -> x.coins(p, 1), -1, 2, LightCoins.BAD);
        Check.bounds("7 w", Check::busy, (x, w) -> x.coins(1, w), 0, 9, LightCoins.BAD);
        Check.bounds("7 w of all", Check::busy, (x, w) -> x.coins(-1, w), 0, 9, LightCoins.BAD);
        LightCoins x = Check.townOf(ITEM.repeat(8));
        Check.row("7 of all, none", new long[] {x.coins(-1, 0), x.coins(-1, 9)}, 0, 0);
        for (int p = 0; p < 8; p++) {
            x.purse(p, 9, 99);
        }
        Check.row("7 of all, the most", new long[] {x.coins(-1, 9), x.coins(-1, 8), x.coins(7, 9), x.coins(8, 9), x.coins(-2, 9)}, 792, 0, 99, -1, -1);
    }

    /** "TUNES: 0 LIMIT (0 .. 9; 2 at first) .. 5 years of WEAR (1 .. 99; 20)." */
    private static void tunes() {
        int[][] tunes = {{0, 9, 2}, {0, 99, 5}, {0, 99, 20}, {0, 10, 1}, {0, 20, 1}, {1, 99, 20}};
        Check.bounds("8 what", Check::busy, (x, what) -> x.tune(what, 1), 0, 5, LightCoins.BAD);
        for (int what = 0; what < tunes.length; what++) {
            int of = what;
            int least = tunes[of][0];
            int most = tunes[of][1];
            Check.bounds("8 tune " + of, Check::busy, (x, v) -> x.tune(of, v), least, most, LightCoins.BAD);
            LightCoins x = new LightCoins();
            Check.row("8 tune " + of, new long[] {x.tune(of, least), x.tune(of, most), x.tune(of, most + 1), x.tune(of, least - 1), x.tune(of, most)},
                tunes[of][2], least, -1, -1, most);
            for (int other = 0; other < tunes.length; other++) {
                if (other != of) {
                    Check.due("8 the others stay", x.tune(other, 1), tunes[other][2]);
                }
            }
        }
    }

    /** Any int is a LOT. */
    private static void lots() {
        LightCoins x = new LightCoins();
        int[] lots = {0, -1, Integer.MAX_VALUE, Integer.MIN_VALUE, 1};
        int was = 1;
        for (int lot : lots) {
            Check.due("9 what it was", x.lot(lot), was);
            was = lot;
        }
    }
}
