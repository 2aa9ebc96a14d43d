/** Reasons: without, reason, moves, grid, least, spread, fewest. */
public final class Promises7To13 {
    private static final int FAR = Integer.MIN_VALUE, HUGE = Integer.MAX_VALUE, NO = SelfSteer.NO;
    private static final Due due = new Due("Promises7To13");

    private static SelfSteer four() {
        SelfSteer x = new SelfSteer();
        Due.make(x, 0, 7, 3, 2, 5, 4, 6);
        Due.make(x, 1, 3, 7, 1, 7, 4, 8);
        Due.make(x, 2, 9, 6, -1, 1, 9, 8);
        Due.make(x, 3, 6, -3, 4, 6, 7, 3);
        return x;
    }

    private static void withoutOne() {
        SelfSteer x = four();
        due.is(7, "without SPIN", x.without(0, 0), 0);
        due.is(7, "without TRAIL: 6 .. 16", x.without(0, 1), 0x1ffc0L);
        due.is(7, "without FRONT: 6 .. 18", x.without(0, 2), 0x7ffc0L);
        due.is(7, "1 without FRONT: 10 .. 26", x.without(1, 2), 0x7fffc00L);
        due.is(7, "the RANGE with all", x.range(0), 0x7ffc0L);
        due.is(7, "has(0, 1) is kept", x.has(0, 1), 3);
        for (int w : new int[] {-1, 4, FAR, HUGE}) due.is(7, "no BICYCLE " + w, x.without(w, 0), -1);
        for (int w : new int[] {-1, 3, FAR, HUGE}) due.is(7, "no REASON " + w, x.without(0, w), -1);
    }

    private static void same(SelfSteer x, int i, int k, int holds, int size, int... numbers) {
        due.is(8, "reason(" + i + ", " + k + ", 0)", x.reason(i, k, 0), holds);
        due.is(8, "reason(" + i + ", " + k + ", 1)", x.reason(i, k, 1), size);
        for (int j = 0; j < 6; j++)
            due.is(8, "reason(" + i + ", " + k + ", " + (2 + j) + ")", x.reason(i, k, 2 + j), size == NO ? NO : numbers[j]);
    }

    private static void reasons() {
        SelfSteer x = four();
        same(x, 0, 0, 1, NO);
        same(x, 0, 1, 0, 0, 7, 0, 2, 5, 4, 6);
        same(x, 0, 2, 0, 0, 7, 3, 0, 5, 4, 6);
        same(x, 1, 1, 1, 2, 4, 0, 1, 7, 4, 9);
        same(x, 2, 1, 1, 2, 9, 0, 1, 1, 9, 8);
        same(x, 3, 1, 1, 1, 6, 0, 3, 6, 7, 3);
        same(x, 3, 2, 1, 4, 6, 1, 0, 6, 7, 3);
        Due.make(x, 3, 9, -5, 7, 3, 6, 3);
        same(x, 3, 2, 1, 6, 9, 1, 0, 3, 6, 3);
        Due.make(x, 3, 9, -6, 7, 3, 6, 3);
        due.is(8, "7 would be too much", x.reason(3, 2, 1), NO);
        due.is(8, "the BICYCLE is as it was", x.has(3, 1) * 100 + x.has(3, 2), -593);
        Due.make(x, 3, 9, 0, 7, 1, 2, 7);
        due.is(8, "without FRONT there is none, with 1 of it there is", x.reason(3, 2, 0), 1);
        // No RANGE, with it or without: it does not hold.
        due.is(8, "no RANGE at all", new SelfSteer().reason(0, 1, 0), 0);
        for (int w : new int[] {-1, 4, FAR, HUGE}) due.is(8, "no BICYCLE " + w, x.reason(w, 0, 0), NO);
        for (int w : new int[] {-1, 3, FAR, HUGE}) due.is(8, "no REASON " + w, x.reason(0, w, 0), NO);
        for (int w : new int[] {-1, 8, FAR, HUGE}) due.is(8, "no what " + w, x.reason(0, 1, w), NO);
    }

    private static void moving() {
        SelfSteer x = four();
        int[][] ups = {{3, 0, -1, 0, 4, 3}, {1, 4, 0, 1, 2, 4}, {0, 0, 0, -1, 0, 0}, {4, 0, -3, -1, 2, 3}};
        int[][] downs = {{-4, -1, 0, 0, -5, -4}, {4, -3, 1, 0, -1, -3}, {-1, 0, 0, 0, 0, 0}, {-3, 1, 1, 0, -3, -3}};
        for (int i = 0; i < 4; i++)
            for (int k = 0; k < 6; k++) {
                due.is(9, "moves(" + i + ", " + k + ", 1)", x.moves(i, k, 1), ups[i][k]);
                due.is(9, "moves(" + i + ", " + k + ", 0)", x.moves(i, k, 0), downs[i][k]);
            }
        due.is(9, "SPIN is 9: as much as it may be", x.moves(2, 0, 1), 0);
        due.is(9, "HIGH is 1: as little as it may be", x.moves(2, 3, 0), 0);
        due.is(9, "has as before", x.has(0, 0), 7);
        for (int w : new int[] {-1, 4, FAR, HUGE}) due.is(9, "no BICYCLE " + w, x.moves(w, 0, 0), NO);
        for (int w : new int[] {-1, 6, FAR, HUGE}) due.is(9, "no NUMBER " + w, x.moves(0, w, 0), NO);
        for (int w : new int[] {-1, 2, FAR, HUGE}) due.is(9, "no up " + w, x.moves(0, 0, w), NO);
    }

    private static void oneGrid(SelfSteer x, int i, int one, int other, int many, int first, int second) {
        due.is(10, "grid " + i + " " + one + " " + other, x.grid(i, one, other, 0), many);
        due.is(10, "the one's of grid " + i + " " + one + " " + other, x.grid(i, one, other, 1), first);
        due.is(10, "the other's of grid " + i + " " + one + " " + other, x.grid(i, one, other, 2), second);
    }

    private static void grids() {
        SelfSteer x = four();
        oneGrid(x, 0, 0, 1, 80, 1, 5);
        oneGrid(x, 0, 1, 0, 80, -3, 6);
        oneGrid(x, 1, 3, 5, 41, 1, 6);
        oneGrid(x, 1, 5, 3, 41, 5, 5);
        oneGrid(x, 2, 2, 4, 135, -5, 1);
        oneGrid(x, 3, 0, 1, 62, 6, -9);
        Due.make(x, 3, 0, 0, 0, 9, 4, 0);
        oneGrid(x, 3, 2, 3, 0, NO, NO);
        due.is(10, "has as before", x.has(3, 3), 9);
        for (int w : new int[] {-1, 4, FAR, HUGE}) due.is(10, "no BICYCLE " + w, x.grid(w, 0, 1, 0), NO);
        for (int w : new int[] {-1, 6, FAR, HUGE}) due.is(10, "no one " + w, x.grid(0, w, 1, 0), NO);
        for (int w : new int[] {-1, 6, FAR, HUGE}) due.is(10, "no other " + w, x.grid(0, 1, w, 0), NO);
        for (int w : new int[] {-1, 3, FAR, HUGE}) due.is(10, "no what " + w, x.grid(0, 0, 1, w), NO);
        for (int k = 0; k < 6; k++) due.is(10, "one and the same " + k, x.grid(0, k, k, 0), NO);
    }

    private static void leasts() {
        SelfSteer x = four();
        due.is(11, "it stays alone", x.least(0, 8, 0), 0);
        due.is(11, "it stays with m", x.least(0, 5, 5), 0);
        due.is(11, "none at rest", x.least(0, 0, 99), NO);
        due.is(11, "none at 30", x.least(0, 30, 0), NO);
        due.is(11, "-1 at 40", x.least(1, 40, -5), -1);
        due.is(11, "-2 at 12", x.least(3, 12, 5), -2);
        Due.make(x, 3, 9, 9, -9, 9, 9, 9);
        due.is(11, "SIGN 0 asks for 9 at least", x.least(3, 30, 0), 9);
        Due.make(x, 3, 5, 2, -3, 6, 6, 9);
        due.is(11, "all that may be done", x.least(3, 1, 65), 99);
        for (int w : new int[] {-1, 4, FAR, HUGE}) due.is(11, "no BICYCLE " + w, x.least(w, 8, 0), NO);
        for (int w : new int[] {-1, 41, FAR, HUGE}) due.is(11, "no SPEED " + w, x.least(0, w, 0), NO);
        for (int w : new int[] {-100, 100, FAR, HUGE}) due.is(11, "no m " + w, x.least(0, 8, w), NO);
    }

    private static void spreads() {
        SelfSteer x = four();
        int[] sets = {0, 1, 2, 4, 8, 16, 32, 63, 62};
        int[][] want = {{26, 18, 25, 26, 25, 16, 18, 0, 7}, {23, 19, 17, 20, 23, 21, 16, 0, 4},
            {2, 2, 2, 2, 1, 2, 2, 0, 1}, {15, 11, 14, 15, 14, 12, 10, 0, 7}};
        for (int i = 0; i < 4; i++)
            for (int n = 0; n < sets.length; n++)
                due.is(12, "spread(" + i + ", " + sets[n] + ")", x.spread(i, sets[n]), want[i][n]);
        due.is(12, "has as before", x.has(2, 5), 8);
        for (int w : new int[] {-1, 4, FAR, HUGE}) due.is(12, "no BICYCLE " + w, x.spread(w, 0), -1);
        for (int w : new int[] {-1, 64, FAR, HUGE}) due.is(12, "no set " + w, x.spread(0, w), -1);
    }

    private static void fewests() {
        SelfSteer x = four();
        int[] most = {0, 3, 5, 10, 20, 40};
        int[][] sets = {{55, 49, 49, 17, 1, 0}, {63, 39, 35, 34, 1, 0}, {15, 0, 0, 0, 0, 0}, {63, 53, 49, 32, 0, 0}};
        for (int i = 0; i < 4; i++)
            for (int n = 0; n < most.length; n++) {
                due.is(13, "the set for " + i + ", " + most[n], x.fewest(i, most[n], 1), sets[i][n]);
                due.is(13, "how many for " + i + ", " + most[n], x.fewest(i, most[n], 0), Integer.bitCount(sets[i][n]));
            }
        for (int w : new int[] {-1, 4, FAR, HUGE}) due.is(13, "no BICYCLE " + w, x.fewest(w, 0, 0), -1);
        for (int w : new int[] {-1, 41, FAR, HUGE}) due.is(13, "no d " + w, x.fewest(0, w, 0), -1);
        for (int w : new int[] {-1, 2, FAR, HUGE}) due.is(13, "no what " + w, x.fewest(0, 0, w), -1);
    }

    public static void main(String[] args) {
        withoutOne();
        reasons();
        moving();
        grids();
        leasts();
        spreads();
        fewests();
        due.end();
    }
}
