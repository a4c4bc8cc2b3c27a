import java.util.Random;

/** Runs of 512 calls by a fixed lot on LightCoins and on Model: every answer must be the same. */
public final class ModelTest {
    private static final String[] WORDS = {"tale", "look", "some", "light", "heavy", ";", "0", "3", "8", "9", "10", "11", "01",
        "99", "100", "tal", "talelook", "Tale", "\u00ff", "\t", "-", "lights"};

    private final Random random;
    private final LightCoins x = new LightCoins();
    private final Model model = new Model();

    private ModelTest(long lot) {
        random = new Random(lot);
    }

    public static void main(String[] args) {
        for (int run = 0; run < 600; run++) {
            new ModelTest(run).compare(run);
        }
        Check.finish();
    }

    private void compare(int run) {
        String opening = townText();
        for (char c : opening.toCharArray()) {
            Check.due("type", x.type(c, 1), model.type(c, 1));
        }
        Check.due("run " + run + ": town of \"" + opening + "\"", x.town(), model.town());
        for (int i = opening.length() + 1; i < 512; i++) {
            oneCall("run " + run + ", call " + i + ": ");
        }
    }

    private int up(int most) {
        return random.nextInt(most + 1);
    }

    /** A number of 0 .. most; now and then one just beyond, or far beyond. */
    private int near(int most) {
        int luck = up(39);
        if (luck == 0) {
            return random.nextInt();
        }
        if (luck == 1) {
            return random.nextBoolean() ? -1 : most + 1;
        }
        return up(most);
    }

    private String item() {
        String way = new String[] {"tale", "look", "some " + up(10)}[up(2)];
        return way + (random.nextBoolean() ? " light " : " heavy ") + up(random.nextInt(4) == 0 ? 8 : 4) + ";";
    }

    private String townText() {
        StringBuilder text = new StringBuilder();
        int items = up(8);
        for (int i = 0; i < items; i++) {
            text.append(" ".repeat(up(1))).append(item());
        }
        if (up(3) == 0) {
            text.insert(up(text.length()), WORDS[up(WORDS.length - 1)]);
        }
        return text.toString();
    }

    private void oneCall(String at) {
        switch (up(9)) {
            case 0:
                towns(at);
                break;
            case 1:
            case 2:
            case 3:
                purses(at);
                break;
            case 4:
                meetings(at);
                break;
            case 5:
            case 6:
                days(at);
                break;
            case 7:
                years(at);
                break;
            case 8:
                lawsAndFirstDays(at);
                break;
            default:
                kindsAndImages(at);
                break;
        }
    }

    private void towns(String at) {
        int luck = up(30);
        if (luck == 0) {
            Check.due(at + "clear", x.clear(), model.clear());
        } else if (luck < 3) {
            Check.due(at + "town", x.town(), model.town());
        } else if (luck < 10) {
            long v = 0;
            String word = " " + WORDS[up(WORDS.length - 1)];
            for (char c : word.toCharArray()) {
                v = v << 8 | c;
            }
            int n = Math.min(8, word.length());
            Check.due(at + "type", x.type(v, n), model.type(v, n));
        } else if (luck == 10) {
            long v = random.nextLong();
            int n = near(8);
            Check.due(at + "type", x.type(v, n), model.type(v, n));
        } else {
            int p = near(7);
            int what = near(4);
            Check.due(at + "person " + p + " " + what, x.person(p, what), model.person(p, what));
        }
    }

    private void purses(String at) {
        int p = near(7);
        int w = near(9);
        int v = near(99);
        switch (up(4)) {
            case 0:
            case 1:
                int n = up(2) == 0 ? 99 : up(1) == 0 ? 0 : v;
                Check.due(at + "purse " + p + " " + w + " " + n, x.purse(p, w, n), model.purse(p, w, n));
                break;
            case 2:
                Check.due(at + "coins " + p + " " + w, x.coins(p, w), model.coins(p, w));
                Check.due(at + "coins -1 " + w, x.coins(-1, w), model.coins(-1, w));
                break;
            case 3:
                int what = near(5);
                int[] most = {9, 99, 99, 10, 20, 99};
                int to = what >= 0 && what < 6 ? near(most[what]) : v;
                Check.due(at + "tune " + what + " " + to, x.tune(what, to), model.tune(what, to));
                break;
            default:
                int lot = random.nextInt();
                Check.due(at + "lot", x.lot(lot), model.lot(lot));
                break;
        }
    }

    private void meetings(String at) {
        switch (up(2)) {
            case 0:
                Check.due(at + "meet", x.meet(), model.meet());
                break;
            case 1:
                int n = near(500);
                Check.due(at + "run " + n, x.run(n), model.run(n));
                break;
            default:
                int what = near(3);
                Check.due(at + "met " + what, x.met(what), model.met(what));
                break;
        }
    }

    private void days(String at) {
        int n = near(up(1) == 0 ? 30 : 8);
        int k = near(Math.max(0, Math.min(n, 30)));
        String nk = n + " " + k;
        switch (up(5)) {
            case 0:
                int which = near(1);
                int what = near(1);
                Check.due(at + "gain " + nk + " " + which + " " + what, x.gain(n, k, which, what), model.gain(n, k, which, what));
                break;
            case 1:
                Check.due(at + "rests " + n, x.rests(n), model.rests(n));
                break;
            case 2:
                Check.due(at + "goes " + nk, x.goes(n, k), model.goes(n, k));
                break;
            case 3:
                Check.due(at + "tip " + n, x.tip(n), model.tip(n));
                break;
            case 4:
                Check.due(at + "out " + nk, x.out(n, k), model.out(n, k));
                break;
            default:
                int w = near(9);
                int whatOfClip = near(2);
                Check.due(at + "clip " + w + " " + whatOfClip, x.clip(w, whatOfClip), model.clip(w, whatOfClip));
                break;
        }
    }

    private void years(String at) {
        int what = near(1);
        switch (up(3)) {
            case 0:
                int n = near(50);
                Check.due(at + "year " + n, x.year(n), model.year(n));
                break;
            case 1:
                Check.due(at + "mean " + what, x.mean(what), model.mean(what));
                break;
            case 2:
                int m = near(100);
                Check.due(at + "shabby " + m, x.shabby(m), model.shabby(m));
                break;
            default:
                int p = near(7);
                int c = near(99);
                Check.due(at + "changer " + p + " " + c + " " + what, x.changer(p, c, what), model.changer(p, c, what));
                break;
        }
    }

    private void lawsAndFirstDays(String at) {
        int what = near(1);
        switch (up(3)) {
            case 0:
                int k = near(8);
                int of = near(2);
                int v = near(up(1) == 0 ? 99 : 9);
                Check.due(at + "law " + k + " " + of + " " + v, x.law(k, of, v), model.law(k, of, v));
                break;
            case 1:
                int a = near(up(1) == 0 ? 40 : 999);
                int b = near(up(1) == 0 ? 150 : 999);
                Check.due(at + "cheapest " + a + " " + b + " " + what, x.cheapest(a, b, what), model.cheapest(a, b, what));
                break;
            case 2:
                int set = near(255);
                Check.due(at + "first " + set + " " + what, x.first(set, what), model.first(set, what));
                break;
            default:
                Check.due(at + "seeds " + what, x.seeds(what), model.seeds(what));
                break;
        }
    }

    private void kindsAndImages(String at) {
        int image = near(1);
        switch (up(5)) {
            case 0:
            case 1:
                int kind = near(6);
                int p = near(7);
                Check.due(at + "labour " + kind + " " + p, x.labour(kind, p), model.labour(kind, p));
                break;
            case 2:
                Check.due(at + "keep " + image, x.keep(image), model.keep(image));
                break;
            case 3:
                Check.due(at + "back " + image, x.back(image), model.back(image));
                break;
            case 4:
                int what = near(5);
                Check.due(at + "count " + what, x.count(what), model.count(what));
                break;
            default:
                Check.due(at + "trace", x.trace(), model.trace());
                break;
        }
    }
}
