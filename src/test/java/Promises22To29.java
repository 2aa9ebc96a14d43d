/** Habits, kinds and images: weeks, tune, habit, score, keep, back, count, trace. */
public final class Promises22To29 {
    private static final int FAR = Integer.MIN_VALUE, HUGE = Integer.MAX_VALUE, NO = SelfSteer.NO;
    private static final Due due = new Due("Promises22To29");

    private static void habits(int promise, SelfSteer x, int plain, int reversed) {
        due.is(promise, "HABIT of PLAIN", x.habit(0, 0), plain);
        due.is(promise, "HABIT of REVERSED", x.habit(1, 0), reversed);
    }

    private static void weeksAndHabits() {
        SelfSteer x = new SelfSteer();
        due.is(24, "weeks of PLAIN at 100", x.habit(0, 1), 0);
        due.is(24, "weeks of REVERSED at 0", x.habit(1, 1), 20);
        due.is(22, "a WEEK", x.weeks(1, 1), 5);
        habits(22, x, 97, 5);
        due.is(24, "PLAIN was 100 once", x.habit(0, 1), 1);
        due.is(24, "95 lack", x.habit(1, 1), 19);
        due.is(22, "50 WEEKS", x.weeks(1, 50), 100);
        habits(22, x, 0, 100);
        due.is(22, "PLAIN at once", x.weeks(0, 1), 100);
        habits(22, x, 100, 97);
        due.is(22, "50 of PLAIN", x.weeks(0, 50), 100);
        habits(22, x, 100, 0);
        due.is(24, "REVERSED was 100 once", x.habit(1, 1), 1);
        due.is(22, "REVERSED at once", x.weeks(1, 1), 100);
        for (int w : new int[] {-1, 2, FAR, HUGE}) due.is(22, "no bar " + w, x.weeks(w, 1), -1);
        for (int w : new int[] {0, 51, FAR, HUGE}) due.is(22, "no n " + w, x.weeks(0, w), -1);
        for (int w : new int[] {-1, 2, FAR, HUGE}) due.is(24, "no bar " + w, x.habit(w, 0), -1);
        for (int w : new int[] {-1, 2, FAR, HUGE}) due.is(24, "no what " + w, x.habit(0, w), -1);
        habits(24, x, 97, 100);
    }

    private static void tuning() {
        SelfSteer x = new SelfSteer();
        due.is(23, "UP", x.tune(0, 50), 5);
        due.is(23, "DOWN", x.tune(1, 0), 3);
        for (int w : new int[] {0, 51, FAR, HUGE}) due.is(23, "no UP " + w, x.tune(0, w), -1);
        for (int w : new int[] {-1, 51, FAR, HUGE}) due.is(23, "no DOWN " + w, x.tune(1, w), -1);
        for (int w : new int[] {-1, 2, FAR, HUGE}) due.is(23, "no what " + w, x.tune(w, 5), -1);
        due.is(22, "by 50", x.weeks(1, 1), 50);
        habits(22, x, 100, 50);
        due.is(23, "UP 49", x.tune(0, 49), 50);
        due.is(24, "weeks by 49", x.habit(1, 1), 2);
        due.is(22, "99", x.weeks(1, 1), 99);
        due.is(24, "1 lacks", x.habit(1, 1), 1);
        due.is(23, "DOWN 50", x.tune(1, 50), 0);
        due.is(22, "PLAIN", x.weeks(0, 1), 100);
        habits(22, x, 100, 49);
        due.is(24, "REVERSED was not 100 yet", x.habit(1, 1), 2);
        due.is(23, "UP 1", x.tune(0, 1), 49);
        due.is(24, "weeks by 1", x.habit(1, 1), 51);
        due.is(22, "50 weeks by 1", x.weeks(1, 50), 99);
        habits(22, x, 0, 99);
    }

    private static void scores() {
        SelfSteer x = new SelfSteer();
        Due.make(x, 1, 7, 3, 2, 5, 4, 6);
        x.weeks(1, 17);
        long[] marks = {1, 11, 101, 1001, 11001, 100001, 1000001};
        // Its RANGE has 13 SPEEDS, none without SPIN, 11 without TRAIL; HABIT of REVERSED is 85.
        int[] want = {13, 16, 13, 2, 11, 5, 65};
        long trace = 0;
        for (int kind = 0; kind <= 6; kind++) {
            due.is(25, "score(" + kind + ", 1)", x.score(kind, 1), want[kind]);
            trace += marks[kind];
            due.is(29, "trace behind " + kind, x.trace(), trace);
        }
        Due.make(x, 2, 9, -6, 7, 3, 6, 3);
        int speeds = Long.bitCount(x.range(2)), flat = Long.bitCount(x.without(2, 1));
        due.is(25, "PLAIN with a TRAIL below 0", x.score(1, 2), speeds - 6);
        due.is(25, "NEITHER", x.score(4, 2), 2 * (speeds - flat) + 9);
        due.is(25, "REVERSED below 0", x.score(5, 3), -8);
        // 26 SPEEDS, 23 without TRAIL; 14 SPEEDS, none without SPIN, though 11 with 1 of it.
        Due.make(x, 3, 8, 4, 3, 3, 5, 7);
        due.is(25, "UNTRAILED", x.score(3, 3), 3);
        due.is(25, "twice 3, and 8", x.score(4, 3), 14);
        Due.make(x, 3, 7, 5, 2, 5, 4, 6);
        due.is(25, "UNSPUN", x.score(2, 3), 14);
        trace += 1001 + 11001 + 101;
        due.is(25, "LOADED", x.score(6, 2), speeds * 3);
        trace += 11 + 11001 + 100001 + 1000001;
        due.is(29, "trace", x.trace(), trace);
        for (int w : new int[] {-1, 7, FAR, HUGE}) due.is(25, "no KIND " + w, x.score(w, 0), NO);
        for (int w : new int[] {-1, 4, FAR, HUGE}) due.is(25, "no BICYCLE " + w, x.score(0, w), NO);
        due.is(29, "trace as before", x.trace(), trace);
    }

    private static int[] state(SelfSteer x) {
        int[] state = new int[7];
        for (int what = 0; what < 7; what++) state[what] = x.at(what);
        return state;
    }

    private static void images() {
        SelfSteer x = new SelfSteer();
        Due.rider(x, "lean 20;rate 30;bar 40;late 3;");
        Due.make(x, 1, 7, 3, 2, 5, 4, 6);
        x.ride(1, 6, 1);
        x.push(100);
        x.ticks(5);
        x.weeks(1, 2);
        due.is(26, "keep", x.keep(1), 5);
        due.is(27, "none in 0", x.back(0), SelfSteer.STATE);
        int[] kept = state(x);
        x.ticks(1);
        int[] next = state(x);
        x.score(0, 0);
        x.weeks(1, 50);
        x.tune(0, 7);
        x.number(1, 5, 4);
        Due.rider(x, "lean 20;rate 30;bar 40;late 3;most 900;");
        Due.type(x, "abc");
        x.ride(2, 9, 0);
        x.push(300);
        due.is(26, "other TICKS", x.ticks(8), 8);
        x.push(1000);
        x.push(1000);
        due.is(26, "keep what lies", x.keep(0), 8);
        due.is(27, "back", x.back(1), 5);
        for (int what = 0; what < 7; what++) due.is(27, "at(" + what + ")", x.at(what), kept[what]);
        habits(27, x, 94, 10);
        due.is(27, "REVERSED was not 100 yet: UP is 7 still", x.habit(1, 1), 13);
        due.is(27, "NUMBERS are not kept", x.number(1, 5, 6), 4);
        due.is(27, "nor THE RIDER", x.count(0), 5);
        due.is(27, "nor THE TEXT", x.count(1), 3);
        due.is(27, "nor THE TRACE", x.trace(), 1);
        x.ticks(1);
        // What was 3 TICKS ago is kept, too, and the BICYCLE, its SPEED and its bar.
        for (int what = 0; what < 7; what++) due.is(27, "then at(" + what + ")", x.at(what), next[what]);
        due.is(27, "back to 0", x.back(0), 8);
        due.is(27, "it lies", x.at(5), 1);
        habits(27, x, 0, 100);
        due.is(27, "back twice", x.back(1), 5);
        due.is(27, "an IMAGE is as it was", x.at(0), kept[0]);
        for (int w : new int[] {-1, 2, FAR, HUGE}) due.is(26, "no IMAGE " + w, x.keep(w), -1);
        for (int w : new int[] {-1, 2, FAR, HUGE}) due.is(27, "no IMAGE " + w, x.back(w), -1);
    }

    private static void counts() {
        SelfSteer x = new SelfSteer();
        due.is(28, "no SPEEDS", x.count(2), 0);
        Due.make(x, 1, 7, 3, 2, 5, 4, 6);
        due.is(28, "13", x.count(2), 13);
        Due.make(x, 3, 6, -3, 4, 6, 7, 3);
        due.is(28, "13 and 3", x.count(2), 16);
        Due.make(x, 0, 6, -3, 4, 6, 7, 3);
        due.is(28, "13 and 3 and 3", x.count(2), 19);
        Due.type(x, "bar 5; late 1;");
        due.is(28, "bytes", x.count(1), 14);
        due.is(28, "no ITEMS yet", x.count(0), 0);
        x.rider();
        due.is(28, "ITEMS", x.count(0), 2);
        due.is(28, "no bytes", x.count(1), 0);
        for (int w : new int[] {-1, 3, FAR, HUGE}) due.is(28, "no what " + w, x.count(w), -1);
        due.is(29, "no score, no trace", x.trace(), 0);
    }

    public static void main(String[] args) {
        weeksAndHabits();
        tuning();
        scores();
        images();
        counts();
        due.end();
    }
}
