import java.math.BigInteger;
import java.util.ArrayList;
import java.util.Arrays;
import java.util.Collections;
import java.util.List;
import java.util.regex.Matcher;
import java.util.regex.Pattern;

/**
 * The document told a second time, as simply as the Java library lets it: coins one by one in lists,
 * exact fractions, years one by one. It shares nothing with LightCoins, so that ModelTest can compare the two.
 */
final class Model {
    private static final int BAD = -1, STATE = -2, FULL = -3, NONE = -9;
    private static final long NO = -1000000000000000000L;

    record Person(int way, int x, int pay, int t) { }

    record Kept(List<int[]> purses, int lot, int year) { }

    /** An exact fraction in least terms. */
    record Part(BigInteger upper, BigInteger lower) {
        static Part of(long upper, long lower) {
            return of(BigInteger.valueOf(upper), BigInteger.valueOf(lower));
        }

        static Part of(BigInteger upper, BigInteger lower) {
            BigInteger g = upper.gcd(lower);
            return new Part(upper.divide(g), lower.divide(g));
        }

        Part plus(Part o) {
            return of(upper.multiply(o.lower).add(o.upper.multiply(lower)), lower.multiply(o.lower));
        }

        Part times(Part o) {
            return of(upper.multiply(o.upper), lower.multiply(o.lower));
        }

        int against(Part o) {
            return upper.multiply(o.lower).compareTo(o.upper.multiply(lower));
        }

        long number(int what) {
            return (what == 0 ? upper : lower).longValueExact();
        }
    }

    private final StringBuilder text = new StringBuilder();
    private List<Person> people = new ArrayList<>();
    private List<int[]> purses = new ArrayList<>();
    private final int[] tunes = {2, 5, 20, 1, 1, 20};
    private final int[][] laws = new int[9][3];
    private final Kept[] images = new Kept[2];
    private int[] latest = {NONE, NONE, NONE, NONE};
    private int lot = 1;
    private int year = 0;
    private int meetings = 0;
    private long trace = 0;

    int type(long v, int n) {
        if (n < 1 || n > 8) {
            return BAD;
        }
        if (text.length() + n > 300) {
            return FULL;
        }
        for (int i = n; i > 0; i--) {
            text.append((char) (v >> (i - 1) * 8 & 0xff));
        }
        return text.length();
    }

    int clear() {
        int had = text.length();
        text.setLength(0);
        return had;
    }

    /** What may stand next is told by the tokens of the item so far, joined by their sorts. */
    int town() {
        Matcher tokens = Pattern.compile("[a-z]+|[0-9]+|;|[^ ]").matcher(text);
        List<Person> read = new ArrayList<>();
        List<String> item = new ArrayList<>();
        while (tokens.find()) {
            String token = tokens.group();
            if (read.size() == 8 || !fits(item, token)) {
                return -10 - tokens.start();
            }
            item.add(token);
            if (token.equals(";")) {
                read.add(personOf(item));
                item.clear();
            }
        }
        if (!item.isEmpty()) {
            return -10 - text.length();
        }
        people = read;
        purses = new ArrayList<>();
        for (int i = 0; i < people.size(); i++) {
            purses.add(new int[10]);
        }
        text.setLength(0);
        Arrays.fill(images, null);
        Arrays.fill(latest, NONE);
        meetings = 0;
        return people.size();
    }

    private static boolean fits(List<String> item, String token) {
        boolean some = !item.isEmpty() && item.get(0).equals("some");
        int place = item.size() - (some && item.size() > 1 ? 1 : 0);
        if (some && item.size() == 1) {
            return token.matches("[0-9]|10");
        }
        switch (place) {
            case 0:
                return token.matches("tale|look|some");
            case 1:
                return token.matches("light|heavy");
            case 2:
                return token.matches("[0-8]");
            default:
                return token.equals(";");
        }
    }

    private static Person personOf(List<String> item) {
        int size = item.size();
        int way = List.of("tale", "look", "some").indexOf(item.get(0));
        int x = way == 2 ? Integer.parseInt(item.get(1)) : 0;
        int pay = List.of("light", "heavy").indexOf(item.get(size - 3));
        return new Person(way, x, pay, Integer.parseInt(item.get(size - 2)));
    }

    private boolean isThere(int p) {
        return p >= 0 && p < people.size();
    }

    private static boolean within(int v, int least, int most) {
        return v >= least && v <= most;
    }

    int person(int p, int what) {
        if (!isThere(p) || !within(what, 0, 4)) {
            return BAD;
        }
        Person a = people.get(p);
        return new int[] {a.way, a.x, a.pay, a.t, Arrays.stream(purses.get(p)).sum()}[what];
    }

    int purse(int p, int w, int n) {
        if (!isThere(p) || !within(w, 0, 9) || !within(n, 0, 99)) {
            return BAD;
        }
        int was = purses.get(p)[w];
        purses.get(p)[w] = n;
        return was;
    }

    int coins(int p, int w) {
        if (!within(w, 0, 9) || p != -1 && !isThere(p)) {
            return BAD;
        }
        return p == -1 ? purses.stream().mapToInt(a -> a[w]).sum() : purses.get(p)[w];
    }

    int tune(int what, int v) {
        int[][] bounds = {{0, 9}, {0, 99}, {0, 99}, {0, 10}, {0, 20}, {1, 99}};
        if (!within(what, 0, 5) || !within(v, bounds[what][0], bounds[what][1])) {
            return BAD;
        }
        int was = tunes[what];
        tunes[what] = v;
        return was;
    }

    int lot(int v) {
        int was = lot;
        lot = v;
        return was;
    }

    private int draw() {
        long next = (lot & 0xffffffffL) * 1103515245L + 12345L;
        lot = (int) next;
        return (int) ((next & 0xffffffffL) / 65536);
    }

    int meet() {
        int m = people.size();
        if (m < 2) {
            return STATE;
        }
        int payer = draw() % m;
        int taker = (payer + 1 + draw() % (m - 1)) % m;
        Person t = people.get(taker);
        boolean looks = t.way == 1 || t.way == 2 && draw() % 10 < t.x;
        List<Integer> mayBePaid = new ArrayList<>();
        for (int w = 0; w <= 9; w++) {
            if (purses.get(payer)[w] > 0 && (!looks || w <= tunes[0])) {
                mayBePaid.add(w);
            }
        }
        int paid = NONE;
        if (!mayBePaid.isEmpty()) {
            paid = people.get(payer).pay == 1 ? Collections.min(mayBePaid) : Collections.max(mayBePaid);
            if (purses.get(taker)[paid] == 99) {
                paid = NONE;
            } else {
                purses.get(payer)[paid]--;
                purses.get(taker)[paid]++;
            }
        }
        latest = new int[] {payer, taker, looks ? 1 : 0, paid};
        meetings++;
        return paid;
    }

    int run(int n) {
        if (!within(n, 1, 500)) {
            return BAD;
        }
        if (people.size() < 2) {
            return STATE;
        }
        int paid = 0;
        for (int i = 0; i < n; i++) {
            paid += meet() == NONE ? 0 : 1;
        }
        return paid;
    }

    int met(int what) {
        return within(what, 0, 3) ? latest[what] : BAD;
    }

    /** The weights of all coins one by one, the heaviest first. */
    private List<Integer> allCoins() {
        List<Integer> all = new ArrayList<>();
        for (int[] purse : purses) {
            for (int w = 0; w <= 9; w++) {
                all.addAll(Collections.nCopies(purse[w], w));
            }
        }
        Collections.sort(all);
        return all;
    }

    private static long grains(List<Integer> coins) {
        return coins.stream().mapToInt(w -> 10 - w).sum();
    }

    private int refusal(int n, int k) {
        if (!within(n, 1, 30) || !within(k, 0, n)) {
            return BAD;
        }
        return allCoins().size() < n ? STATE : 0;
    }

    private Part tale(List<Integer> all, int n, int k) {
        return Part.of(grains(all.subList(all.size() - (n - k), all.size())), n - k);
    }

    private Part look(List<Integer> all, int k) {
        return Part.of(grains(all.subList(0, k)), k).plus(Part.of(-tunes[1], 10));
    }

    long gain(int n, int k, int which, int what) {
        if (!within(which, 0, 1) || !within(what, 0, 1) || refusal(n, k) != 0 || k == (which == 0 ? n : 0)) {
            return NO;
        }
        List<Integer> all = allCoins();
        return (which == 0 ? tale(all, n, k) : look(all, k)).number(what);
    }

    int rests(int n) {
        if (refusal(n, 0) != 0) {
            return refusal(n, 0);
        }
        List<Integer> all = allCoins();
        int bits = 0;
        for (int k = 0; k <= n; k++) {
            boolean noneStops = k == 0 || look(all, k).against(tale(all, n, k - 1)) >= 0;
            boolean noneBegins = k == n || tale(all, n, k).against(look(all, k + 1)) >= 0;
            bits += noneStops && noneBegins ? 1 << k : 0;
        }
        return bits;
    }

    int goes(int n, int k) {
        if (refusal(n, k) != 0) {
            return refusal(n, k);
        }
        List<Integer> all = allCoins();
        int here = k;
        while (true) {
            if (here < n && look(all, here + 1).against(tale(all, n, here)) > 0) {
                here++;
            } else if (here > 0 && tale(all, n, here - 1).against(look(all, here)) > 0) {
                here--;
            } else {
                return here;
            }
        }
    }

    int tip(int n) {
        if (refusal(n, 0) != 0) {
            return refusal(n, 0);
        }
        for (int k = 0; k <= n; k++) {
            if (goes(n, k) == n) {
                return k;
            }
        }
        return NONE;
    }

    int out(int n, int k) {
        if (refusal(n, k) != 0) {
            return refusal(n, k);
        }
        List<Integer> all = allCoins();
        int bits = 0;
        for (int w : all) {
            bits |= 1 << w;
        }
        for (int w : all.subList(0, k)) {
            bits &= ~(1 << w);
        }
        for (int w : all.subList(all.size() - (n - k), all.size())) {
            bits &= ~(1 << w);
        }
        return bits;
    }

    private Part asItIs(int w) {
        return Part.of(w <= tunes[0] ? 10 : 10 - w, 1);
    }

    private Part clipped(int w) {
        Part caught = Part.of(-tunes[3] * tunes[2], 10);
        return caught.plus(Part.of(10 - tunes[3], 10).times(Part.of(tunes[4], 1).plus(worth(w + 1))));
    }

    private boolean isClipped(int w) {
        return w < 9 && clipped(w).against(asItIs(w)) > 0;
    }

    private Part worth(int w) {
        return isClipped(w) ? clipped(w) : asItIs(w);
    }

    long clip(int w, int what) {
        if (!within(w, 0, 9) || !within(what, 0, 2)) {
            return NO;
        }
        if (what < 2) {
            return worth(w).number(what);
        }
        int until = w;
        while (isClipped(until)) {
            until++;
        }
        return until;
    }

    private static void wearOut(List<int[]> some) {
        for (int[] purse : some) {
            int[] worn = new int[10];
            for (int w = 0; w <= 9; w++) {
                int then = Math.min(9, w + 1);
                worn[then] = Math.min(99, worn[then] + purse[w]);
            }
            System.arraycopy(worn, 0, purse, 0, 10);
        }
    }

    private static List<int[]> copyOf(List<int[]> some) {
        List<int[]> copy = new ArrayList<>();
        for (int[] purse : some) {
            copy.add(purse.clone());
        }
        return copy;
    }

    int year(int n) {
        if (!within(n, 1, 50)) {
            return BAD;
        }
        if (year + n > 1000) {
            return STATE;
        }
        for (int i = 0; i < n; i++) {
            year++;
            if (year % tunes[5] == 0) {
                wearOut(purses);
            }
        }
        return year;
    }

    private Part meanNow() {
        List<Integer> all = allCoins();
        return Part.of(grains(all), all.size());
    }

    long mean(int what) {
        return !within(what, 0, 1) || allCoins().isEmpty() ? NO : meanNow().number(what);
    }

    int shabby(int m) {
        if (!within(m, 0, 100)) {
            return BAD;
        }
        if (allCoins().isEmpty()) {
            return NONE;
        }
        List<int[]> now = copyOf(purses);
        int found = NONE;
        for (int years = 0; years <= 1000; years++) {
            if (years > 0 && (year + years) % tunes[5] != 0) {
                continue;
            }
            if (years > 0) {
                wearOut(purses);
            }
            if (meanNow().against(Part.of(m, 10)) <= 0) {
                found = years;
                break;
            }
        }
        purses = now;
        return found;
    }

    int changer(int p, int c, int what) {
        if (!isThere(p) || !within(c, 0, 99) || !within(what, 0, 1)) {
            return BAD;
        }
        int best = 10;
        int highest = heldAt(purses.get(p));
        for (int x = 9; x >= 0; x--) {
            int[] after = new int[10];
            int melted = 0;
            for (int w = 0; w <= 9; w++) {
                if (w < x) {
                    after[w] = purses.get(p)[w];
                } else {
                    melted += purses.get(p)[w] * (10 - w);
                }
            }
            after[0] += melted * (100 - c) / 1000;
            if (heldAt(after) > highest) {
                best = x;
                highest = heldAt(after);
            }
        }
        return what == 0 ? best : highest;
    }

    private int heldAt(int[] purse) {
        int held = 0;
        for (int w = 0; w <= 9; w++) {
            held += purse[w] * (w <= tunes[0] ? 10 : 10 - w);
        }
        return held;
    }

    int law(int k, int what, int v) {
        if (!within(k, 0, 8) || !within(what, 0, 2) || !within(v, 0, 99)) {
            return BAD;
        }
        int was = laws[k][what];
        laws[k][what] = v;
        return was;
    }

    int cheapest(int a, int b, int what) {
        if (!within(a, 0, 999) || !within(b, 0, 999) || !within(what, 0, 1)) {
            return BAD;
        }
        int best = NONE;
        int least = NONE;
        for (int set = 511; set >= 0; set--) {
            int cost = 0;
            int looking = tunes[1];
            int fine = tunes[2];
            for (int k = 0; k < 9; k++) {
                if ((set & 1 << k) != 0) {
                    cost += laws[k][0];
                    looking -= laws[k][1];
                    fine += laws[k][2];
                }
            }
            if (looking <= a && fine >= b && (best == NONE || cost <= least)) {
                best = set;
                least = cost;
            }
        }
        return what == 0 ? least : best;
    }

    private int[] firstDay(int set) {
        int takers = 0;
        for (int p = 0; p < people.size(); p++) {
            takers |= set & 1 << p;
        }
        int rounds = 0;
        while (true) {
            int next = takers;
            for (int p = 0; p < people.size(); p++) {
                if (Integer.bitCount(takers & ~(1 << p)) >= people.get(p).t) {
                    next |= 1 << p;
                }
            }
            if (next == takers) {
                return new int[] {takers, rounds};
            }
            takers = next;
            rounds++;
        }
    }

    int first(int set, int what) {
        return within(set, 0, 255) && within(what, 0, 1) ? firstDay(set)[what] : BAD;
    }

    int seeds(int what) {
        if (!within(what, 0, 1)) {
            return BAD;
        }
        int all = (1 << people.size()) - 1;
        for (int number = 0; number <= 8; number++) {
            for (int set = 0; set <= all; set++) {
                if (Integer.bitCount(set) == number && firstDay(set)[0] == all) {
                    return what == 0 ? number : set;
                }
            }
        }
        return NONE;
    }

    int labour(int kind, int p) {
        if (!within(kind, 0, 6) || !isThere(p)) {
            return BAD;
        }
        return bodyOf(kind, p);
    }

    private int bodyOf(int kind, int p) {
        int[] above = {-1, 0, 0, 2, 0, 4, 0};
        trace += new long[] {1, 10, 100, 1000, 10000, 100000, 1000000}[kind];
        int[] purse = purses.get(p);
        if (kind == 0) {
            return Arrays.stream(purse).sum();
        }
        int up = bodyOf(above[kind], p);
        int overLimit = 0;
        for (int w = tunes[0] + 1; w <= 9; w++) {
            overLimit += purse[w];
        }
        return new int[] {0, up + 1, up + tunes[1] * overLimit, people.get(p).x * up / 10, up - purse[0], 2 * up,
            up + people.get(p).t}[kind];
    }

    int keep(int image) {
        if (!within(image, 0, 1)) {
            return BAD;
        }
        images[image] = new Kept(copyOf(purses), lot, year);
        return allCoins().size();
    }

    int back(int image) {
        if (!within(image, 0, 1)) {
            return BAD;
        }
        if (images[image] == null) {
            return STATE;
        }
        purses = copyOf(images[image].purses);
        lot = images[image].lot;
        year = images[image].year;
        return allCoins().size();
    }

    int count(int what) {
        if (!within(what, 0, 5)) {
            return BAD;
        }
        return new int[] {people.size(), allCoins().size(), year, text.length(), meetings, (int) grains(allCoins())}[what];
    }

    long trace() {
        return trace;
    }
}
