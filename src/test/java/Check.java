import java.nio.charset.StandardCharsets;

/** What the tests share: answers that are due, and texts typed whole. */
final class Check {
    private static int wrong = 0;
    private static int asked = 0;

    private Check() {
    }

    static void due(String call, long got, long want) {
        asked++;
        if (got != want) {
            wrong++;
            System.out.println(call + " answered " + got + ", due is " + want);
        }
    }

    static void holds(String what, boolean is) {
        due(what, is ? 1 : 0, 1);
    }

    /** Each of the answers is the one that is due, in their order. */
    static void row(String calls, long[] got, long... want) {
        due(calls + ": how many", got.length, want.length);
        for (int i = 0; i < Math.min(got.length, want.length); i++) {
            due(calls + " [" + i + "]", got[i], want[i]);
        }
    }

    static void finish() {
        System.out.println(asked + " answers, " + wrong + " wrong");
        if (wrong != 0) {
            System.exit(1);
        }
    }

    static int typeWhole(LightCoins x, String text) {
        int length = x.count(3);
        for (byte b : text.getBytes(StandardCharsets.ISO_8859_1)) {
            length = x.type(b, 1);
        }
        return length;
    }

    static int read(LightCoins x, String text) {
        x.clear();
        typeWhole(x, text);
        return x.town();
    }

    static LightCoins townOf(String text) {
        LightCoins x = new LightCoins();
        read(x, text);
        return x;
    }

    /** All that an object tells of its state, so that "nothing changes" can be seen. */
    static String stateOf(LightCoins x, int people) {
        StringBuilder state = new StringBuilder();
        for (int what = 0; what <= 5; what++) {
            state.append(x.count(what)).append(' ');
        }
        for (int what = 0; what <= 3; what++) {
            state.append(x.met(what)).append(' ');
        }
        for (int p = 0; p < people; p++) {
            for (int what = 0; what <= 3; what++) {
                state.append(x.person(p, what)).append(' ');
            }
            for (int w = 0; w <= 9; w++) {
                state.append(x.coins(p, w)).append(' ');
            }
        }
        int lot = x.lot(0);
        x.lot(lot);
        return state.append(lot).append(' ').append(x.trace()).toString();
    }
}
