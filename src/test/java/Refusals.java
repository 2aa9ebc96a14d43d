import java.util.ArrayList;
import java.util.Arrays;
import java.util.List;

/**
 * Every call that is refused answers what the document tells, whatever number it is that is not as
 * told, and nothing changes: a twin of the object, that was not called, answers all that follows
 * alike. Calls that only ask change nothing either.
 */
public final class Refusals {
    private static final int NO = SelfSteer.NO, BAD = SelfSteer.BAD, STATE = SelfSteer.STATE, FULL = SelfSteer.FULL;
    private static final int NEW = 0, UNDER_WAY = 1, AT_ITS_END = 2, STATES = 3;
    private static final int[] LOWEST = {-9, -9, -9, 1, 1, 0};
    private static final long ANY = Long.MAX_VALUE;
    private static final Due due = new Due("Refusals");

    /** A call of the face with its arguments. */
    private interface Call {
        long on(SelfSteer x, int... a);
    }

    private static SelfSteer made(int state) {
        SelfSteer x = new SelfSteer();
        if (state == NEW) return x;
        Due.make(x, 0, 7, 3, 2, 5, 4, 6);
        Due.make(x, 3, 6, -3, 4, 6, 7, 3);
        Due.rider(x, "lean 10;late 2;");
        x.ride(3, 6, 1);
        x.push(100);
        x.ticks(3);
        x.tune(0, 7);
        x.tune(1, 4);
        x.weeks(1, 3);
        x.score(4, 0);
        x.keep(0);
        Due.type(x, "bar -7;lean 3");
        if (state == UNDER_WAY) return x;
        x.ticks(2);
        x.keep(1);
        x.push(1000);
        x.push(1000);
        Due.type(x, " ".repeat(200 - x.count(1)));
        return x;
    }

    private static void see(SelfSteer x, List<Long> seen) {
        for (int what = 0; what < 7; what++) seen.add((long) x.at(what));
        for (int which = 0; which < 2; which++)
            for (int what = 0; what < 2; what++) seen.add((long) x.habit(which, what));
    }

    /** All that can be asked of it and, as some of it shows only then, what it does next. */
    private static List<Long> seen(SelfSteer x) {
        List<Long> seen = new ArrayList<>();
        for (int i = 0; i < 4; i++)
            for (int k = 0; k < 6; k++) seen.add((long) x.has(i, k));
        for (int what = 0; what < 3; what++) seen.add((long) x.count(what));
        seen.add(x.trace());
        see(x, seen);
        seen.add((long) x.push(1));
        seen.add((long) x.ticks(2));
        see(x, seen);
        // An end that makes a law of THE TEXT; a full one has no room for it, and has none in it.
        seen.add((long) x.type(0x3b20L, 2));
        seen.add((long) x.rider());
        seen.add((long) x.clear());
        for (int image = 0; image < 2; image++) {
            seen.add((long) x.back(image));
            see(x, seen);
            seen.add((long) x.ticks(4));
            see(x, seen);
            seen.add((long) x.weeks(1, 2));
            seen.add((long) x.weeks(0, 1));
            see(x, seen);
        }
        seen.add((long) x.tune(0, 50));
        seen.add((long) x.tune(1, 50));
        seen.add((long) x.ride(3, 6, 0));
        x.push(50);
        x.ticks(4);
        see(x, seen);
        return seen;
    }

    private static void nothingChanges(int promise, String what, int state, Call call, long want, int... a) {
        SelfSteer called = made(state), twin = made(state);
        String told = what + Arrays.toString(a) + " in state " + state;
        if (want == ANY) call.on(called, a);
        else due.is(promise, told, call.on(called, a), want);
        due.is(promise, told + ": all is as it was", seen(called).equals(seen(twin)) ? 1 : 0, 1);
    }

    /** Numbers that are not from lowest to highest, some of which would be if they wrapped around. */
    private static int[] beyond(int lowest, int highest) {
        long[] all = {lowest - 1, highest + 1, Integer.MIN_VALUE, Integer.MAX_VALUE, lowest + 256, lowest + 65536,
            highest - 65536, (long) Integer.MIN_VALUE + Math.max(0, highest), -1L << 24, 1L << 30};
        return Arrays.stream(all).filter(n -> n < lowest || n > highest).mapToInt(n -> (int) n).toArray();
    }

    /** Ends are lowest, highest, lowest, highest, .. of each argument; each is put beyond them, then all are. */
    private static void refused(int promise, String name, long want, Call call, int... ends) {
        int count = ends.length / 2;
        int[] low = new int[count], high = new int[count], wrong = new int[count];
        for (int p = 0; p < count; p++) {
            low[p] = ends[2 * p];
            high[p] = ends[2 * p + 1];
            wrong[p] = high[p] + 1;
        }
        for (int state = NEW; state < STATES; state++) {
            for (int p = 0; p < count; p++)
                for (int beyond : beyond(low[p], high[p])) {
                    int[] a = beyond % 2 == 0 ? low.clone() : high.clone();
                    a[p] = beyond;
                    nothingChanges(promise, name, state, call, want, a);
                }
            nothingChanges(promise, name, state, call, want, wrong);
        }
    }

    private static void badBicycles() {
        due.sentence("A NUMBER of a BICYCLE becomes v: what it was. NO: BAD.");
        refused(2, "number", NO, (x, a) -> x.number(a[0], a[1], 1), 0, 3, 0, 5);
        for (int k = 0; k < 6; k++) {
            int number = k;
            refused(2, "number " + k + " of, to ", NO, (x, a) -> x.number(a[0], number, a[1]), 0, 3, LOWEST[k], 9);
        }
        due.sentence("A NUMBER of a BICYCLE. NO: BAD.");
        refused(3, "has", NO, (x, a) -> x.has(a[0], a[1]), 0, 3, 0, 5);
        due.sentence("SIGN j (0 .. 3). BAD: the least long.");
        refused(4, "sign", Long.MIN_VALUE, (x, a) -> x.sign(a[0], a[1], a[2], a[3], a[4]), 0, 3, 0, 40, -99, 99, -99, 99, 0, 3);
        due.sentence("0 it STAYS, 1 it CAPSIZES, 2 it WEAVES. BAD.");
        refused(5, "stays", BAD, (x, a) -> x.stays(a[0], a[1], a[2], a[3]), 0, 3, 0, 40, -99, 99, -99, 99);
        due.sentence("RANGE. BAD: -1.");
        refused(6, "range", -1, (x, a) -> x.range(a[0]), 0, 3);
    }

    private static void badReasons() {
        due.sentence("RANGE WITHOUT a NUMBER (0 .. 2). BAD: -1.");
        refused(7, "without", -1, (x, a) -> x.without(a[0], a[1]), 0, 3, 0, 2);
        due.sentence("NO: BAD, or NONE.");
        refused(8, "reason", NO, (x, a) -> x.reason(a[0], a[1], a[2]), 0, 3, 0, 2, 0, 7);
        due.sentence("MOVES: with 1 more (up = 1), with 1 less (0). NO: BAD.");
        refused(9, "moves", NO, (x, a) -> x.moves(a[0], a[1], a[2]), 0, 3, 0, 5, 0, 1);
        due.sentence("NO: BAD (one and the same NUMBER, too), none.");
        refused(10, "grid", NO, (x, a) -> x.grid(a[0], a[1], 3, a[2]), 0, 3, 0, 2, 0, 2);
        refused(10, "grid", NO, (x, a) -> x.grid(a[0], 3, a[1], a[2]), 0, 3, 4, 5, 0, 2);
        for (int k = 0; k < 6; k++) nothingChanges(10, "grid", UNDER_WAY, (x, a) -> x.grid(0, a[0], a[0], 0), NO, k);
        due.sentence("LEAST k. NO: BAD, NONE.");
        refused(11, "least", NO, (x, a) -> x.least(a[0], a[1], a[2]), 0, 3, 0, 40, -99, 99);
        due.sentence("SPREAD with a set measured (bits 0 .. 63). BAD.");
        refused(12, "spread", BAD, (x, a) -> x.spread(a[0], a[1]), 0, 3, 0, 63);
        due.sentence("FEWEST: how many (what = 0), the set (1). BAD.");
        refused(13, "fewest", BAD, (x, a) -> x.fewest(a[0], a[1], a[2]), 0, 3, 0, 40, 0, 1);
    }

    private static void badRides() {
        due.sentence("come to THE TEXT: how many it has. BAD; FULL.");
        refused(14, "type", BAD, (x, a) -> x.type(0x2020202020202020L, a[0]), 1, 8);
        due.sentence("the bar REVERSED (1) or not (0): TICKS that it had. BAD.");
        refused(17, "ride", BAD, (x, a) -> x.ride(a[0], a[1], a[2]), 0, 3, 0, 40, 0, 1);
        due.sentence("A PUSH (-1000 .. 1000): A. NO: BAD, or it lies.");
        refused(18, "push", NO, (x, a) -> x.push(a[0]), -1000, 1000);
        due.sentence("n TICKS (1 .. 200), fewer, if it FALLS: how many. BAD; STATE: it lies.");
        refused(19, "ticks", BAD, (x, a) -> x.ticks(a[0]), 1, 200);
        due.sentence("6 the latest HAND. NO: BAD.");
        refused(20, "at", NO, (x, a) -> x.at(a[0]), 0, 6);
        due.sentence("(THE RIDE is not changed); NONE. BAD.");
        refused(21, "bears", BAD, (x, a) -> x.bears(a[0]), 1, 200);
    }

    private static void badRest() {
        due.sentence("n WEEKS (1 .. 50) of PLAIN (0), REVERSED (1): its HABIT. BAD.");
        refused(22, "weeks", BAD, (x, a) -> x.weeks(a[0], a[1]), 0, 1, 1, 50);
        due.sentence("UP (what = 0), DOWN (1) becomes v: what it was. BAD.");
        refused(23, "tune", BAD, (x, a) -> x.tune(0, a[0]), 1, 50);
        refused(23, "tune", BAD, (x, a) -> x.tune(1, a[0]), 0, 50);
        refused(23, "tune", BAD, (x, a) -> x.tune(a[0], 9), 0, 1);
        due.sentence("weeks of it alone till it is 100 (1). BAD.");
        refused(24, "habit", BAD, (x, a) -> x.habit(a[0], a[1]), 0, 1, 0, 1);
        due.sentence("SCORE. NO: BAD.");
        refused(25, "score", NO, (x, a) -> x.score(a[0], a[1]), 0, 6, 0, 3);
        due.sentence("An IMAGE is kept: TICKS. BAD.");
        refused(26, "keep", BAD, (x, a) -> x.keep(a[0]), 0, 1);
        due.sentence("TICKS. BAD; STATE: none was kept.");
        refused(27, "back", BAD, (x, a) -> x.back(a[0]), 0, 1);
        due.sentence("2 SPEEDS of all RANGES together. BAD.");
        refused(28, "count", BAD, (x, a) -> x.count(a[0]), 0, 2);
    }

    private static void statesAndFull() {
        due.sentence("Refused, and nothing changes, the first of these: BAD (a number is not as told, or there is no such thing), STATE (as told), FULL.");
        for (int n : new int[] {1, 200}) nothingChanges(19, "ticks", AT_ITS_END, (x, a) -> x.ticks(a[0]), STATE, n);
        for (int by : new int[] {-1000, 0, 1000}) nothingChanges(18, "push", AT_ITS_END, (x, a) -> x.push(a[0]), NO, by);
        for (int image : new int[] {0, 1}) nothingChanges(27, "back", NEW, (x, a) -> x.back(a[0]), STATE, image);
        nothingChanges(27, "back", UNDER_WAY, (x, a) -> x.back(a[0]), STATE, 1);
        for (int n = 1; n <= 8; n++)
            nothingChanges(14, "type", AT_ITS_END, (x, a) -> x.type(0x2020202020202020L, a[0]), FULL, n);
        // What is BAD is BAD, though there is a STATE or no room, too.
        for (int n : new int[] {0, 201}) nothingChanges(19, "ticks", AT_ITS_END, (x, a) -> x.ticks(a[0]), BAD, n);
        for (int image : new int[] {-1, 2}) nothingChanges(27, "back", NEW, (x, a) -> x.back(a[0]), BAD, image);
        for (int n : new int[] {0, 9}) nothingChanges(14, "type", AT_ITS_END, (x, a) -> x.type(32, a[0]), BAD, n);
    }

    private static void faultyTexts() {
        due.sentence("-10 less FAULT: nothing changes.");
        nothingChanges(16, "rider", UNDER_WAY, (x, a) -> x.rider(), -10 - 13);
        nothingChanges(16, "rider", AT_ITS_END, (x, a) -> x.rider(), -10 - 200);
    }

    /** Calls that ask, at the ends of what they may be asked. */
    private static void asked(int promise, String name, Call call, int... ends) {
        int count = ends.length / 2;
        int[] low = new int[count], high = new int[count];
        for (int p = 0; p < count; p++) {
            low[p] = ends[2 * p];
            high[p] = ends[2 * p + 1];
        }
        for (int state = NEW; state < STATES; state++) {
            nothingChanges(promise, name, state, call, ANY, low);
            nothingChanges(promise, name, state, call, ANY, high);
        }
    }

    private static void askingChangesNothing() {
        due.sentence("Nothing is promised beyond the answers and state changes described above");
        asked(3, "has", (x, a) -> x.has(a[0], a[1]), 0, 3, 0, 5);
        asked(4, "sign", (x, a) -> x.sign(a[0], a[1], a[2], a[3], a[4]), 0, 3, 0, 40, -99, 99, -99, 99, 0, 3);
        asked(5, "stays", (x, a) -> x.stays(a[0], a[1], a[2], a[3]), 0, 3, 0, 40, -99, 99, -99, 99);
        asked(6, "range", (x, a) -> x.range(a[0]), 0, 3);
        asked(7, "without", (x, a) -> x.without(a[0], a[1]), 0, 3, 0, 2);
        asked(8, "reason", (x, a) -> x.reason(a[0], a[1], a[2]), 0, 3, 0, 2, 0, 7);
        asked(9, "moves", (x, a) -> x.moves(a[0], a[1], a[2]), 0, 3, 0, 5, 0, 1);
        asked(10, "grid", (x, a) -> x.grid(a[0], a[1], a[2], a[3]), 0, 3, 0, 5, 1, 4, 0, 2);
        asked(11, "least", (x, a) -> x.least(a[0], a[1], a[2]), 0, 3, 0, 40, -99, 99);
        asked(12, "spread", (x, a) -> x.spread(a[0], a[1]), 0, 3, 0, 63);
        asked(13, "fewest", (x, a) -> x.fewest(a[0], a[1], a[2]), 0, 3, 0, 40, 0, 1);
        asked(20, "at", (x, a) -> x.at(a[0]), 0, 6);
        asked(21, "bears", (x, a) -> x.bears(a[0]), 1, 200);
        asked(24, "habit", (x, a) -> x.habit(a[0], a[1]), 0, 1, 0, 1);
        asked(28, "count", (x, a) -> x.count(a[0]), 0, 2);
        asked(29, "trace", (x, a) -> x.trace(), 0, 0);
    }

    public static void main(String[] args) {
        badBicycles();
        badReasons();
        badRides();
        badRest();
        statesAndFull();
        faultyTexts();
        askingChangesNothing();
        due.end();
    }
}
