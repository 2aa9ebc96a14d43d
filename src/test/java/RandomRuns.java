import java.util.ArrayList;
import java.util.List;
import java.util.Random;

/** Runs of random calls, the same ones in every test run, held against Model. */
public final class RandomRuns {
    private static final int RUNS = 300;
    private static final int CALLS = 512;
    private static final String[] WORDS = {"lean", "rate", "bar", "late", "most"};

    private final Random random;
    private final SelfSteer steer = new SelfSteer();
    private final Model model = new Model();
    private final List<String> calls = new ArrayList<>();

    private RandomRuns(long seed) {
        random = new Random(seed);
    }

    /** Mostly from lowest to highest, now and then one beyond, rarely anything. */
    private int about(int lowest, int highest) {
        int way = random.nextInt(60);
        if (way == 0) return lowest - 1;
        if (way == 1) return highest + 1;
        if (way == 2) return random.nextInt();
        if (way == 3) return lowest;
        if (way == 4) return highest;
        return lowest + random.nextInt(highest - lowest + 1);
    }

    private int bike() { return about(0, 3); }

    private boolean due(String call, long got, long want) {
        calls.add(call + " = " + got);
        if (got == want) return true;
        System.out.println("after " + (calls.size() - 1) + " calls: " + call + " answered " + got + ", due is " + want);
        for (String line : calls.subList(Math.max(0, calls.size() - 30), calls.size())) System.out.println("  " + line);
        return false;
    }

    private String item() {
        String word = WORDS[random.nextInt(5)];
        String blank = random.nextInt(4) == 0 ? "" : random.nextInt(4) == 0 ? "  " : " ";
        String minus = random.nextInt(3) == 0 && !word.equals("late") && !word.equals("most") ? "-" : "";
        int amount = word.equals("late") ? random.nextInt(6) : word.equals("most") ? random.nextInt(1000) : random.nextInt(100);
        return word + blank + minus + (minus.isEmpty() ? "" : random.nextInt(3) == 0 ? " " : "") + amount + ";"
                + (random.nextInt(3) == 0 ? " " : "");
    }

    private boolean typeAll(String text) {
        for (int from = 0; from < text.length(); from += 8) {
            String part = text.substring(from, Math.min(text.length(), from + 8));
            long v = random.nextLong();
            for (char c : part.toCharArray()) v = v << 8 | c;
            int n = part.length();
            if (!due("type(" + v + ", " + n + ")", steer.type(v, n), model.type(v, n))) return false;
        }
        return true;
    }

    private String law() {
        StringBuilder text = new StringBuilder();
        int items = random.nextInt(6);
        for (int n = 0; n < items; n++) text.append(item());
        if (random.nextInt(3) == 0 && text.length() > 0) {
            char[] signs = "ab -;0159z{`/:~A\u0000\u00ff".toCharArray();
            int place = random.nextInt(text.length());
            if (random.nextBoolean()) text.setCharAt(place, signs[random.nextInt(signs.length)]);
            else text.insert(place, signs[random.nextInt(signs.length)]);
        }
        if (random.nextInt(8) == 0 && text.length() > 0) text.setLength(random.nextInt(text.length()));
        return text.toString();
    }

    private boolean newRider() {
        return typeAll(law()) && due("rider()", steer.rider(), model.rider())
                && (random.nextInt(3) != 0 || due("clear()", steer.clear(), model.clear()));
    }

    private boolean newNumber() {
        int i = bike(), k = about(0, 5);
        int v = k >= 0 && k < 6 ? about(Model.LOW[k], Model.HIGH[k]) : random.nextInt(9);
        return due("number(" + i + ", " + k + ", " + v + ")", steer.number(i, k, v), model.number(i, k, v));
    }

    private boolean bicycles(int which) {
        int i = bike(), v = about(0, 40), k = about(-99, 99), m = about(-99, 99), j = about(0, 3), n = about(0, 5);
        if (which == 0) return due("has(" + i + ", " + n + ")", steer.has(i, n), model.has(i, n));
        if (which == 1) return due("sign(" + i + ", " + v + ", " + k + ", " + m + ", " + j + ")", steer.sign(i, v, k, m, j), model.sign(i, v, k, m, j));
        if (which == 2) return due("stays(" + i + ", " + v + ", " + k + ", " + m + ")", steer.stays(i, v, k, m), model.stays(i, v, k, m));
        return due("range(" + i + ")", steer.range(i), model.range(i));
    }

    private boolean reasons(int which) {
        int i = bike(), k = about(0, 2), n = about(0, 5), o = about(0, 5), v = about(0, 40), m = about(-99, 99);
        int flag = about(0, 1), set = about(0, 63), what = random.nextInt(3) == 0 ? about(0, 7) : 0;
        if (which == 0) return due("without(" + i + ", " + k + ")", steer.without(i, k), model.without(i, k));
        if (which == 1) return due("reason(" + i + ", " + k + ", " + what + ")", steer.reason(i, k, what), model.reason(i, k, what));
        if (which == 2) return due("moves(" + i + ", " + n + ", " + flag + ")", steer.moves(i, n, flag), model.moves(i, n, flag));
        if (which == 3) {
            int part = about(0, 2);
            return due("grid(" + i + ", " + n + ", " + o + ", " + part + ")", steer.grid(i, n, o, part), model.grid(i, n, o, part));
        }
        if (which == 4) return due("least(" + i + ", " + v + ", " + m + ")", steer.least(i, v, m), model.least(i, v, m));
        if (which == 5) return due("spread(" + i + ", " + set + ")", steer.spread(i, set), model.spread(i, set));
        if (random.nextInt(5) != 0) return true;
        return due("fewest(" + i + ", " + v + ", " + flag + ")", steer.fewest(i, v, flag), model.fewest(i, v, flag));
    }

    private boolean rides(int which) {
        int i = bike(), v = random.nextInt(3) == 0 ? about(0, 40) : about(0, 9), flag = about(0, 1), n = about(1, 200);
        int by = random.nextInt(4) == 0 ? about(-1000, 1000) : random.nextInt(61) - 30, what = about(0, 6);
        int few = random.nextInt(4) == 0 ? n : about(1, 12);
        if (which == 0) return due("ride(" + i + ", " + v + ", " + flag + ")", steer.ride(i, v, flag), model.ride(i, v, flag));
        if (which == 1) return due("push(" + by + ")", steer.push(by), model.push(by));
        if (which == 2) return due("ticks(" + few + ")", steer.ticks(few), model.ticks(few));
        if (which == 3) return due("at(" + what + ")", steer.at(what), model.at(what));
        if (random.nextInt(10) != 0) return true;
        return due("bears(" + n + ")", steer.bears(n), model.bears(n));
    }

    private boolean rest(int which) {
        int flag = about(0, 1), bar = about(0, 1), n = about(1, 50), few = about(1, 9), kind = about(0, 6), i = bike(), v = about(0, 50);
        if (which == 0) return due("weeks(" + bar + ", " + n + ")", steer.weeks(bar, n), model.weeks(bar, n));
        if (which == 1) return due("weeks(" + bar + ", " + few + ")", steer.weeks(bar, few), model.weeks(bar, few));
        if (which == 2) return due("tune(" + flag + ", " + v + ")", steer.tune(flag, v), model.tune(flag, v));
        if (which == 3) return due("habit(" + bar + ", " + flag + ")", steer.habit(bar, flag), model.habit(bar, flag));
        if (which == 4) return due("score(" + kind + ", " + i + ")", steer.score(kind, i), model.score(kind, i));
        if (which == 5) return due("keep(" + flag + ")", steer.keep(flag), model.keep(flag));
        if (which == 6) return due("back(" + flag + ")", steer.back(flag), model.back(flag));
        if (which == 7) {
            int what = about(0, 2);
            return due("count(" + what + ")", steer.count(what), model.count(what));
        }
        if (which == 8 && random.nextInt(4) == 0) return due("clear()", steer.clear(), model.clear());
        return due("trace()", steer.trace(), model.trace());
    }

    private boolean call() {
        int way = random.nextInt(20);
        if (way < 4) return newNumber();
        if (way < 7) return bicycles(random.nextInt(4));
        if (way < 10) return reasons(random.nextInt(7));
        if (way < 12) return newRider();
        if (way < 16) return rides(random.nextInt(5));
        return rest(random.nextInt(10));
    }

    private boolean run() {
        // Half the runs begin with bicycles that stay up at some speeds; the first ones do not.
        for (int i = 0; i < 4 && random.nextBoolean(); i++) {
            int[] sure = {5 + random.nextInt(4), 1 + random.nextInt(9), 1 + random.nextInt(9), 1 + random.nextInt(3), 1 + random.nextInt(3), 5 + random.nextInt(5)};
            for (int k = 0; k < 6; k++) {
                if (!due("number(" + i + ", " + k + ", " + sure[k] + ")", steer.number(i, k, sure[k]), model.number(i, k, sure[k]))) return false;
            }
        }
        while (calls.size() < CALLS) {
            int before = calls.size();
            if (!call()) return false;
            if (calls.size() == before && !due("trace()", steer.trace(), model.trace())) return false;
        }
        return true;
    }

    public static void main(String[] args) {
        int runs = args.length > 0 ? Integer.parseInt(args[0]) : RUNS;
        int passed = 0;
        for (int seed = 0; seed < runs; seed++) {
            if (new RandomRuns(seed).run()) passed++;
            else System.out.println("seed " + seed);
        }
        System.out.println("RandomRuns: " + passed + " passed, " + (runs - passed) + " failed");
        if (passed != runs) System.exit(1);
    }
}
