import java.math.BigInteger;
import java.util.ArrayList;
import java.util.Arrays;
import java.util.List;
import java.util.TreeMap;

/**
 * The document said once more, as slowly and as plainly as it goes: signs by BigInteger,
 * searches over everything, the whole past of a ride kept. RandomRuns holds the class against it.
 */
final class Model {
    static final long NO = -1000000, BAD = -1, STATE = -2, FULL = -3, NONE = -9;
    static final int[] LOW = {-9, -9, -9, 1, 1, 0};
    static final int[] HIGH = {9, 9, 9, 9, 9, 9};

    int[][] bikes = new int[4][];
    List<Integer> text = new ArrayList<>();
    TreeMap<String, Integer> rider = new TreeMap<>();
    Trip trip = new Trip(0, 0, 0);
    int[] habit = {100, 0};
    boolean[] once = {true, false};
    int up = 5, down = 3;
    Object[][] images = new Object[2][];
    long trace = 0;

    Model() {
        for (int i = 0; i < 4; i++) bikes[i] = new int[] {2, 3, 2, 5, 4, 3};
    }

    /** A ride: the rows {A, B, P, Q} as each tick began, and as it is now. */
    static final class Trip {
        final int i, v, reversed;
        List<long[]> begun = new ArrayList<>();
        long[] now = {0, 0, 0, 0};
        long hand = 0;

        Trip(int i, int v, int reversed) { this.i = i; this.v = v; this.reversed = reversed; }

        Trip copy() {
            Trip t = new Trip(i, v, reversed);
            t.begun = new ArrayList<>(begun);
            t.now = now.clone();
            t.hand = hand;
            return t;
        }

        boolean lies() { return Math.abs(now[0]) > 1000; }
    }

    static boolean in(long x, long a, long b) { return a <= x && x <= b; }

    static BigInteger big(long x) { return BigInteger.valueOf(x); }

    static long signOf(int[] b, long v, long k, long m, int j) {
        long s = b[0], t = b[1], f = b[2], h = b[3], l = b[4], w = b[5];
        if (j == 3) return 100 * l * w;
        if (j == 2) return 10 * t * v * v - 100 * l * h + l * s * v * (s * v + 10 * m);
        if (j == 1) return 10 * s * v * (v * v + l * (t + f + k)) - 100 * l * h * w + 100 * m * v * v;
        return 100 * v * v * (t + f + k) - 10 * h * t * v * v;
    }

    static boolean up(int[] b, long v, long k, long m) {
        BigInteger[] g = new BigInteger[4];
        for (int j = 0; j < 4; j++) {
            g[j] = big(signOf(b, v, k, m, j));
            if (g[j].signum() <= 0) return false;
        }
        BigInteger right = big(100L * b[4]).multiply(g[1]).multiply(g[1]).add(g[3].multiply(g[3]).multiply(g[0]));
        return g[3].multiply(g[2]).multiply(g[1]).compareTo(right) > 0;
    }

    static long rangeOf(int[] b) {
        long r = 0;
        for (int v = 40; v >= 0; v--) r = r * 2 + (up(b, v, 0, 0) ? 1 : 0);
        return r;
    }

    static int width(int[] b) { return Long.bitCount(rangeOf(b)); }

    static int[] with(int[] b, int k, int v) {
        int[] c = b.clone();
        c[k] = v;
        return c;
    }

    boolean bike(long i) { return in(i, 0, 3); }

    long number(int i, int k, int v) {
        if (!bike(i) || !in(k, 0, 5) || !in(v, LOW[k], HIGH[k])) return NO;
        int was = bikes[i][k];
        bikes[i][k] = v;
        return was;
    }

    long has(int i, int k) { return bike(i) && in(k, 0, 5) ? bikes[i][k] : NO; }

    long sign(int i, int v, int k, int m, int j) {
        if (!bike(i) || !in(v, 0, 40) || !in(k, -99, 99) || !in(m, -99, 99) || !in(j, 0, 3)) return Long.MIN_VALUE;
        return signOf(bikes[i], v, k, m, j);
    }

    long stays(int i, int v, int k, int m) {
        if (!bike(i) || !in(v, 0, 40) || !in(k, -99, 99) || !in(m, -99, 99)) return BAD;
        if (up(bikes[i], v, k, m)) return 0;
        return signOf(bikes[i], v, k, m, 0) <= 0 ? 1 : 2;
    }

    long range(int i) { return bike(i) ? rangeOf(bikes[i]) : -1; }

    long without(int i, int k) { return bike(i) && in(k, 0, 2) ? rangeOf(with(bikes[i], k, 0)) : -1; }

    /** The best of ALL THE SAME over every bicycle that there is: {size, its six numbers}, or null. */
    int[] allTheSame(int[] base, int k) {
        int[] best = null;
        int[] c = new int[6];
        int[] from = LOW.clone(), to = HIGH.clone();
        from[k] = 0;
        to[k] = 0;
        for (c[0] = from[0]; c[0] <= to[0]; c[0]++)
            for (c[1] = from[1]; c[1] <= to[1]; c[1]++)
                for (c[2] = from[2]; c[2] <= to[2]; c[2]++)
                    for (c[3] = from[3]; c[3] <= to[3]; c[3]++)
                        for (c[4] = from[4]; c[4] <= to[4]; c[4]++)
                            for (c[5] = from[5]; c[5] <= to[5]; c[5]++) {
                                int size = 0;
                                for (int j = 0; j < 6; j++) if (j != k) size += Math.abs(c[j] - base[j]);
                                if (size > 6 || (best != null && best[0] <= size) || rangeOf(c) == 0) continue;
                                best = new int[] {size, c[0], c[1], c[2], c[3], c[4], c[5]};
                            }
        return best;
    }

    long reason(int i, int k, int what) {
        if (!bike(i) || !in(k, 0, 2) || !in(what, 0, 7)) return NO;
        if (what == 0) return rangeOf(bikes[i]) != 0 && without(i, k) == 0 ? 1 : 0;
        int[] best = allTheSame(bikes[i], k);
        return best == null ? NO : best[what - 1];
    }

    long moves(int i, int k, int up) {
        if (!bike(i) || !in(k, 0, 5) || !in(up, 0, 1)) return NO;
        int v = bikes[i][k] + 2 * up - 1;
        return in(v, LOW[k], HIGH[k]) ? width(with(bikes[i], k, v)) - width(bikes[i]) : 0;
    }

    long grid(int i, int one, int other, int what) {
        if (!bike(i) || !in(one, 0, 5) || !in(other, 0, 5) || one == other || !in(what, 0, 2)) return NO;
        List<int[]> have = new ArrayList<>();
        for (int a = LOW[one]; a <= HIGH[one]; a++)
            for (int b = LOW[other]; b <= HIGH[other]; b++)
                if (rangeOf(with(with(bikes[i], one, a), other, b)) != 0) have.add(new int[] {a, b});
        if (what == 0) return have.size();
        return have.isEmpty() ? NO : have.get(0)[what - 1];
    }

    long least(int i, int v, int m) {
        if (!bike(i) || !in(v, 0, 40) || !in(m, -99, 99)) return NO;
        for (int k = 0; k <= 99; k++) {
            if (up(bikes[i], v, k, m)) return k;
            if (up(bikes[i], v, -k, m)) return -k;
        }
        return NO;
    }

    static void widths(int[] b, int k, int set, List<Integer> all) {
        if (k == 6) {
            all.add(width(b));
            return;
        }
        for (int by = -1; by <= 1; by++) {
            if ((set >> k & 1) == 1 && by != 0 || !in(b[k] + by, LOW[k], HIGH[k])) continue;
            widths(with(b, k, b[k] + by), k + 1, set, all);
        }
    }

    long spread(int i, int set) {
        if (!bike(i) || !in(set, 0, 63)) return BAD;
        List<Integer> all = new ArrayList<>();
        widths(bikes[i], 0, set, all);
        return java.util.Collections.max(all) - java.util.Collections.min(all);
    }

    long fewest(int i, int d, int what) {
        if (!bike(i) || !in(d, 0, 40) || !in(what, 0, 1)) return BAD;
        for (int n = 0; n <= 6; n++)
            for (int set = 0; set < 64; set++)
                if (Integer.bitCount(set) == n && spread(i, set) <= d) return what == 0 ? n : set;
        throw new IllegalStateException();
    }

    long type(long v, int n) {
        if (!in(n, 1, 8)) return BAD;
        if (text.size() + n > 200) return FULL;
        for (int j = n; j-- > 0; ) text.add((int) (v >> 8 * j & 0xff));
        return text.size();
    }

    long clear() {
        int had = text.size();
        text.clear();
        return had;
    }

    /** The tokens as texts with their places; a wrong one is "?". The last is "" at the text's end. */
    List<Object[]> tokens() {
        StringBuilder all = new StringBuilder();
        for (int c : text) all.append((char) c);
        java.util.regex.Matcher m = java.util.regex.Pattern.compile("[a-z]+|[0-9]+|[^ ]", java.util.regex.Pattern.DOTALL).matcher(all);
        List<Object[]> out = new ArrayList<>();
        while (m.find()) {
            String s = m.group();
            boolean fine = s.matches("lean|rate|bar|late|most|-|;|0|[1-9][0-9]{0,2}");
            out.add(new Object[] {fine ? s : "?", m.start()});
        }
        out.add(new Object[] {"", all.length()});
        return out;
    }

    long rider() {
        List<Object[]> all = tokens();
        TreeMap<String, Integer> told = new TreeMap<>();
        int n = 0;
        while (!all.get(n)[0].equals("")) {
            String word = (String) all.get(n)[0];
            if (!word.matches("[a-z]+") || told.containsKey(word)) return -10 - (int) all.get(n)[1];
            n++;
            boolean minus = false;
            if (word.matches("lean|rate|bar") && all.get(n)[0].equals("-")) {
                minus = true;
                n++;
            }
            String amount = (String) all.get(n)[0];
            int most = word.equals("late") ? 5 : word.equals("most") ? 999 : 99;
            if (!amount.matches("[0-9]+") || Integer.parseInt(amount) > most) return -10 - (int) all.get(n)[1];
            n++;
            if (!all.get(n)[0].equals(";")) return -10 - (int) all.get(n)[1];
            n++;
            told.put(word, minus ? -Integer.parseInt(amount) : Integer.parseInt(amount));
        }
        rider = told;
        text.clear();
        return told.size();
    }

    long ride(int i, int v, int reversed) {
        if (!bike(i) || !in(v, 0, 40) || !in(reversed, 0, 1)) return BAD;
        int had = trip.begun.size();
        trip = new Trip(i, v, reversed);
        return had;
    }

    long push(int by) {
        if (!in(by, -1000, 1000) || trip.lies()) return NO;
        trip.now[0] += by;
        return trip.now[0];
    }

    static long near(long x, long most) { return x > most ? most : x < -most ? -most : x; }

    void tick(Trip r) {
        int[] n = bikes[r.i];
        long s = n[0], t = n[1], f = n[2], h = n[3], l = n[4], w = n[5], v = r.v;
        r.begun.add(r.now.clone());
        int then = r.begun.size() - 1 - rider.getOrDefault("late", 0);
        long[] seen = then < 0 ? new long[4] : r.begun.get(then);
        long sum = rider.getOrDefault("lean", 0) * seen[0] + rider.getOrDefault("rate", 0) * seen[2]
                + rider.getOrDefault("bar", 0) * seen[1];
        r.hand = near(sum / 10, rider.getOrDefault("most", 999));
        if (r.reversed == 1) r.hand = -r.hand;
        long a = r.now[0], b = r.now[1], p = r.now[2], q = r.now[3];
        long p2 = p + (h * a - v * v * b / l - s * v * q / 10) / 20;
        long q2 = q + ((t + f) * a + s * v * p / 10 - t * v * v * b / (10 * l) - w * q + r.hand) / 20;
        r.now[2] = near(p2, 100000);
        r.now[3] = near(q2, 100000);
        r.now[0] = a + r.now[2] / 20;
        r.now[1] = near(b + r.now[3] / 20, 10000);
    }

    long ticks(int n) {
        if (!in(n, 1, 200)) return BAD;
        if (trip.lies()) return STATE;
        int done = 0;
        for (; done < n && !trip.lies(); done++) tick(trip);
        return done;
    }

    long at(int what) {
        if (!in(what, 0, 6)) return NO;
        if (what < 4) return trip.now[what];
        return what == 4 ? trip.begun.size() : what == 5 ? (trip.lies() ? 1 : 0) : trip.hand;
    }

    long bears(int n) {
        if (!in(n, 1, 200)) return BAD;
        for (int by = 1; by <= 1000; by++) {
            Trip r = new Trip(trip.i, trip.v, trip.reversed);
            r.now[0] = by;
            for (int j = 0; j < n && !r.lies(); j++) tick(r);
            if (r.lies()) return by;
        }
        return NONE;
    }

    void week(int which) {
        habit[which] = once[which] ? 100 : Math.min(100, habit[which] + up);
        if (habit[which] == 100) once[which] = true;
        habit[1 - which] = Math.max(0, habit[1 - which] - down);
    }

    long weeks(int which, int n) {
        if (!in(which, 0, 1) || !in(n, 1, 50)) return BAD;
        for (int j = 0; j < n; j++) week(which);
        return habit[which];
    }

    long tune(int what, int v) {
        if (!in(what, 0, 1) || !in(v, 1 - what, 50)) return BAD;
        int was = what == 0 ? up : down;
        if (what == 0) up = v; else down = v;
        return was;
    }

    long habit(int which, int what) {
        if (!in(which, 0, 1) || !in(what, 0, 1)) return BAD;
        if (what == 0) return habit[which];
        int[] h = habit.clone();
        boolean[] o = once.clone();
        int n = 0;
        for (; habit[which] < 100; n++) week(which);
        habit = h;
        once = o;
        return n;
    }

    long ask(int kind, int[] b) {
        trace += new long[] {1, 10, 100, 1000, 10000, 100000, 1000000}[kind];
        if (kind == 0) return width(b);
        long above = ask(kind == 4 ? 3 : 0, b);
        if (kind == 1) return above + b[1];
        if (kind == 2) return above - width(with(b, 0, 0));
        if (kind == 3) return above - width(with(b, 1, 0));
        if (kind == 4) return 2 * above + b[0];
        if (kind == 5) return above - Math.floorDiv(habit[1], 10);
        return above * b[3];
    }

    long score(int kind, int i) { return in(kind, 0, 6) && bike(i) ? ask(kind, bikes[i]) : NO; }

    long keep(int image) {
        if (!in(image, 0, 1)) return BAD;
        images[image] = new Object[] {trip.copy(), habit.clone(), once.clone()};
        return trip.begun.size();
    }

    long back(int image) {
        if (!in(image, 0, 1)) return BAD;
        if (images[image] == null) return STATE;
        trip = ((Trip) images[image][0]).copy();
        habit = ((int[]) images[image][1]).clone();
        once = ((boolean[]) images[image][2]).clone();
        return trip.begun.size();
    }

    long count(int what) {
        if (what == 0) return rider.size();
        if (what == 1) return text.size();
        return what == 2 ? Arrays.stream(bikes).mapToInt(Model::width).sum() : BAD;
    }

    long trace() { return trace; }
}
