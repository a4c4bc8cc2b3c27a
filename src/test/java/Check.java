import java.nio.charset.StandardCharsets;

/** What the tests share: answers that are due, texts typed whole, calls that change nothing. */
final class Check {
    /** One call on an object, with its answer. */
    interface Call {
        long on(LightCoins x);
    }

    /** One call on an object, by the one number that is tested. */
    interface ByNumber {
        long on(LightCoins x, int v);
    }

    /** How an object comes to stand before the call that is tested; the same each time. */
    interface Made {
        LightCoins object();
    }

    private static int wrong = 0;
    private static int asked = 0;

    private Check() {
    }

    static void due(String call, long got, long want) {
        asked++;
        if (got != want) {
            wrong++;
            System.out.println(call + " answered " + got + ", due is " + want);
        }
    }

    static void holds(String what, boolean is) {
        due(what, is ? 1 : 0, 1);
    }

    /** Each of the answers is the one that is due, in their order. */
    static void row(String calls, long[] got, long... want) {
        due(calls + ": how many", got.length, want.length);
        for (int i = 0; i < Math.min(got.length, want.length); i++) {
            due(calls + " [" + i + "]", got[i], want[i]);
        }
    }

    static void finish() {
        System.out.println(asked + " answers, " + wrong + " wrong");
        if (wrong != 0) {
            System.exit(1);
        }
    }

    /** Eight bytes a call, so that long texts leave most of an object's 512 calls. */
    static int typeWhole(LightCoins x, String text) {
        byte[] bytes = text.getBytes(StandardCharsets.ISO_8859_1);
        int length = x.count(3);
        for (int at = 0; at < bytes.length; at += 8) {
            int n = Math.min(8, bytes.length - at);
            long v = 0;
            for (int i = 0; i < n; i++) {
                v = v << 8 | (bytes[at + i] & 255);
            }
            length = x.type(v, n);
        }
        return length;
    }

    static int read(LightCoins x, String text) {
        x.clear();
        typeWhole(x, text);
        return x.town();
    }

    static LightCoins townOf(String text) {
        LightCoins x = new LightCoins();
        read(x, text);
        return x;
    }

    /** The call's answer, and that an object that had the call stands as one that had not. */
    static void changesNothing(String what, Made made, Call call, long want) {
        LightCoins asked = made.object();
        due(what, call.on(asked), want);
        String without = wholeOf(made.object());
        String with = wholeOf(asked);
        holds(what + ": nothing changes, " + without + " became " + with, without.equals(with));
    }

    /** The least and the most are taken; what is just beyond and far beyond is refused, and nothing changes. */
    static void bounds(String what, Made made, ByNumber call, int least, int most, long refusal) {
        for (int v : new int[] {Integer.MIN_VALUE, least - 1, most + 1, Integer.MAX_VALUE}) {
            changesNothing(what + " of " + v, made, x -> call.on(x, v), refusal);
        }
        for (int v : new int[] {least, most}) {
            holds(what + " of " + v + " is taken", call.on(made.object(), v) != refusal);
        }
    }

    /** A town of three, with something in every place that a call could change. */
    static LightCoins busy() {
        LightCoins x = townOf("tale light 2;look heavy 0;some 4 light 1;");
        for (int w = 0; w <= 9; w++) {
            x.purse(w % 3, w, 11 + w);
        }
        x.keep(1);
        x.tune(0, 3);
        x.tune(1, 7);
        x.tune(5, 4);
        x.law(0, 0, 2);
        x.law(0, 1, 3);
        x.law(8, 2, 9);
        x.year(5);
        x.run(7);
        x.labour(3, 2);
        x.keep(0);
        x.run(3);
        x.year(3);
        typeWhole(x, "look heavy 6;");
        return x;
    }

    /** A few hundred calls that use the object up: also what only later calls can tell (tunes, laws, images, the text). */
    static String wholeOf(LightCoins x) {
        int people = x.count(0);
        StringBuilder whole = new StringBuilder(stateOf(x, people));
        for (int what = 0; what <= 5; what++) {
            whole.append(what == 0 ? " tunes" : "").append(' ').append(x.tune(what, 1));
        }
        for (int k = 0; k <= 8; k++) {
            for (int what = 0; what <= 2; what++) {
                whole.append(k + what == 0 ? " laws" : "").append(' ').append(x.law(k, what, 0));
            }
        }
        for (int image = 0; image <= 1; image++) {
            whole.append(" image ").append(x.back(image)).append(' ').append(stateOf(x, people));
        }
        whole.append(" text ").append(x.town());
        return whole.append(' ').append(stateOf(x, x.count(0))).toString();
    }

    /** All that an object tells of its state without losing it. */
    static String stateOf(LightCoins x, int people) {
        StringBuilder state = new StringBuilder();
        for (int what = 0; what <= 5; what++) {
            state.append(x.count(what)).append(' ');
        }
        for (int what = 0; what <= 3; what++) {
            state.append(x.met(what)).append(' ');
        }
        for (int p = 0; p < people; p++) {
            for (int what = 0; what <= 3; what++) {
                state.append(x.person(p, what)).append(' ');
            }
            for (int w = 0; w <= 9; w++) {
                state.append(x.coins(p, w)).append(' ');
            }
        }
        int lot = x.lot(0);
        x.lot(lot);
        return state.append(lot).append(' ').append(x.trace()).toString();
    }
}
