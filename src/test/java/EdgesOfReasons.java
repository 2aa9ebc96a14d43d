/** The boundary cases that the document names of reasons, grids and measures: one test for each sentence. */
public final class EdgesOfReasons {
    private static final int NO = SelfSteer.NO, BAD = SelfSteer.BAD;
    private static final Due due = new Due("EdgesOfReasons");

    private static void bicycles0To3() {
        due.sentence("3 have NUMBERS 0 SPIN s");
        SelfSteer x = Due.one(1, 1, 1, 1, 1, 1);
        Due.make(x, 3, 7, 3, 2, 5, 4, 6);
        due.is(7, "without of BICYCLE 3", x.without(3, 2), 0x7ffc0L);
        due.is(8, "reason of BICYCLE 3", x.reason(3, 0, 0), 1);
        due.is(9, "moves of BICYCLE 3", x.moves(3, 0, 1), 3);
        due.is(10, "grid of BICYCLE 3", x.grid(3, 0, 1, 0), 80);
        due.is(11, "least of BICYCLE 3", x.least(3, 8, 0), 0);
        due.is(12, "spread of BICYCLE 3", x.spread(3, 0), 26);
        due.is(13, "fewest of BICYCLE 3", x.fewest(3, 0, 1), 55);
        for (int i : new int[] {-1, 4}) {
            due.is(7, "without of BICYCLE " + i, x.without(i, 0), -1);
            due.is(8, "reason of BICYCLE " + i, x.reason(i, 0, 0), NO);
            due.is(9, "moves of BICYCLE " + i, x.moves(i, 0, 1), NO);
            due.is(10, "grid of BICYCLE " + i, x.grid(i, 0, 1, 0), NO);
            due.is(11, "least of BICYCLE " + i, x.least(i, 8, 0), NO);
            due.is(12, "spread of BICYCLE " + i, x.spread(i, 0), BAD);
            due.is(13, "fewest of BICYCLE " + i, x.fewest(i, 0, 1), BAD);
        }
    }

    private static void numbers0To2() {
        due.sentence("RANGE WITHOUT a NUMBER (0 .. 2). BAD: -1.");
        SelfSteer x = Due.one(7, 3, 2, 5, 4, 6);
        due.is(7, "NUMBER 0", x.without(0, 0), 0);
        due.is(7, "NUMBER 2", x.without(0, 2), 0x7ffc0L);
        due.is(7, "NUMBER -1", x.without(0, -1), -1);
        due.is(7, "NUMBER 3", x.without(0, 3), -1);
        due.sentence("REASON of a NUMBER 0, 1, 2");
        due.is(8, "NUMBER 0", x.reason(0, 0, 0), 1);
        due.is(8, "NUMBER 2", x.reason(0, 2, 0), 0);
        due.is(8, "NUMBER -1", x.reason(0, -1, 0), NO);
        due.is(8, "NUMBER 3", x.reason(0, 3, 0), NO);
    }

    private static void withoutWhatIs0() {
        due.sentence("WITHOUT it (that NUMBER being 0): the RANGE then");
        SelfSteer x = Due.one(7, 0, 2, 5, 4, 6);
        due.is(7, "TRAIL is 0 already", x.without(0, 1), x.range(0));
        due.is(6, "its RANGE", x.range(0), 0x1ffc0L);
        x = Due.one(9, 3, -2, 4, 3, 6);
        due.is(6, "no RANGE with it", x.range(0), 0);
        due.is(7, "and one without", x.without(0, 2), 0x3ffe0L);
        due.is(3, "FRONT is as it was", x.has(0, 2), -2);
        // 0 it is: 1 or -1 would give another RANGE.
        due.is(7, "without TRAIL", Due.one(7, 9, 4, 3, 4, 9).without(0, 1), 0x1ffff80L);
        due.is(7, "without FRONT", Due.one(2, 5, -7, 1, 2, 9).without(0, 2), 0x1fff800L);
        due.is(7, "without SPIN", Due.one(7, 9, -5, 2, 9, 9).without(0, 0), 0);
    }

    private static void holdsOrNot() {
        due.sentence("it HOLDS, if there is a RANGE with it, and none without");
        due.is(8, "one with, none without", Due.one(7, 3, 2, 5, 4, 6).reason(0, 0, 0), 1);
        due.is(8, "one with, one without", Due.one(7, 3, 2, 5, 4, 6).reason(0, 1, 0), 0);
        due.is(8, "none with, none without", new SelfSteer().reason(0, 1, 0), 0);
        due.is(8, "none with, one without", Due.one(5, -9, 1, 7, 5, 5).reason(0, 1, 0), 0);
        due.is(8, "it is 0 already", Due.one(7, 0, 2, 5, 4, 6).reason(0, 1, 0), 0);
        // None with 0 of it, though there is one with 1 or with -1.
        due.is(8, "1 of SPIN", Due.one(7, 9, -5, 2, 9, 9).reason(0, 0, 0), 1);
        due.is(8, "1 of TRAIL", Due.one(9, 2, 0, 9, 3, 4).reason(0, 1, 0), 1);
        due.is(8, "-1 of TRAIL", Due.one(9, -5, 8, 4, 5, 3).reason(0, 1, 0), 1);
        due.is(8, "1 of FRONT", Due.one(6, -2, 4, 7, 5, 9).reason(0, 2, 0), 1);
        due.is(8, "-1 of FRONT", Due.one(4, 5, -1, 3, 6, 4).reason(0, 2, 0), 1);
    }

    private static void same(SelfSteer x, int k, int size, int... numbers) {
        due.is(8, "how much without " + k, x.reason(0, k, 1), size);
        for (int j = 0; j < 6; j++)
            due.is(8, "NUMBER " + j + " without " + k, x.reason(0, k, 2 + j), size == NO ? NO : numbers[j]);
    }

    private static void sixAtMost() {
        due.sentence("(sizes of what each is changed by, added; 6 at most)");
        same(Due.one(7, 3, 2, 5, 4, 6), 1, 0, 7, 0, 2, 5, 4, 6);
        same(Due.one(7, -5, -1, 3, 8, 6), 2, 6, 7, 1, 0, 3, 8, 6);
        same(Due.one(9, 0, -5, 2, 7, 9), 1, 6, 9, 0, 1, 2, 7, 9);
        same(Due.one(-2, 7, 2, 6, 7, 7), 1, 6, 4, 0, 2, 6, 7, 7);
        same(Due.one(4, -4, 4, 9, 8, 2), 2, 6, 4, 1, 0, 9, 8, 3);
        // These would have a RANGE with 7.
        same(Due.one(7, -6, -9, 6, 8, 4), 2, NO);
        same(Due.one(0, 0, 6, 8, 5, 4), 1, NO);
        same(Due.one(-2, 1, 1, 1, 3, 8), 1, NO);
    }

    private static void changesToWhatTheyMayBe() {
        due.sentence("the least change of other NUMBERS");
        // HIGH 0, LONG 10, DAMP 10 would do, too, but no NUMBER may be that.
        same(Due.one(5, 0, 1, 1, 5, 3), 1, 1, 5, 0, 1, 1, 5, 4);
        same(Due.one(4, 1, 0, 1, 5, 4), 2, 1, 4, 1, 0, 1, 5, 5);
        same(Due.one(3, 0, 4, 5, 9, 9), 1, 1, 4, 0, 4, 5, 9, 9);
        same(Due.one(2, 1, 0, 3, 9, 9), 2, 1, 2, 2, 0, 3, 9, 9);
        same(Due.one(7, 0, 1, 1, 1, 9), 1, 1, 7, 0, 1, 1, 2, 9);
        same(Due.one(2, 2, 0, 5, 7, 9), 2, 1, 2, 2, 0, 5, 8, 9);
    }

    private static void noneAtAll() {
        due.sentence("NO: BAD, or NONE.");
        // Nothing that does not spin has a RANGE.
        same(Due.one(7, 3, 2, 5, 4, 6), 0, NO);
        due.is(8, "but whether it HOLDS is told", Due.one(7, 3, 2, 5, 4, 6).reason(0, 0, 0), 1);
        SelfSteer x = Due.one(7, 3, 2, 5, 4, 6);
        due.is(8, "what -1", x.reason(0, 1, -1), NO);
        due.is(8, "what 7", x.reason(0, 1, 7), 6);
        due.is(8, "what 8", x.reason(0, 1, 8), NO);
    }

    private static void theFirstOfSeveral() {
        due.sentence("which: of several the first by NUMBERS 0 .. 5 (from the least value up)");
        same(Due.one(8, -7, 6, 4, 2, 6), 1, 1, 8, 0, 6, 4, 3, 6);
        same(Due.one(6, 1, -6, 9, 1, 8), 2, 1, 6, 1, 0, 9, 1, 9);
        same(Due.one(0, 5, -2, 9, 2, 2), 2, 2, 1, 5, 0, 9, 1, 2);
        same(Due.one(2, 3, 3, 3, 6, 4), 2, 3, 3, 3, 0, 3, 6, 6);
        same(Due.one(3, -8, 7, 2, 2, 6), 1, 6, 6, 0, 7, 2, 4, 7);
    }

    private static void atItsEnd(int k, int up, int... numbers) {
        SelfSteer x = Due.one(numbers);
        due.is(9, "moves of NUMBER " + k + " at " + numbers[k], x.moves(0, k, up), 0);
        due.is(3, "it is as it was", x.has(0, k), numbers[k]);
    }

    private static void asMuchAsItMayBe() {
        due.sentence("with a NUMBER 1 more (as much as it may be: else 0)");
        // 10 would move the RANGE of each of these.
        atItsEnd(0, 1, 9, 5, -2, 5, 4, 4);
        atItsEnd(1, 1, 3, 9, 4, 3, 1, 5);
        atItsEnd(2, 1, 1, 4, 9, 1, 1, 7);
        atItsEnd(3, 1, 5, 3, 0, 9, 9, 4);
        atItsEnd(4, 1, 5, -1, 5, 3, 9, 7);
        atItsEnd(5, 1, 5, -8, 8, 2, 7, 9);
        // From 8 to 9 there is a move: 8 may be 1 more.
        due.is(9, "SPIN 8", Due.one(8, 5, -2, 5, 4, 4).moves(0, 0, 1), 1);
        due.is(9, "TRAIL 8", Due.one(3, 8, 4, 3, 1, 5).moves(0, 1, 1), 3);
        due.is(9, "FRONT 8", Due.one(1, 4, 8, 1, 1, 7).moves(0, 2, 1), -2);
        due.is(9, "LONG 8", Due.one(5, -1, 5, 3, 8, 7).moves(0, 4, 1), 4);
        due.is(9, "DAMP 8", Due.one(5, -8, 8, 2, 7, 8).moves(0, 5, 1), 2);
    }

    private static void asLittleAsItMayBe() {
        due.sentence("with 1 less likewise");
        atItsEnd(0, 0, -9, -9, 1, 9, 3, 1);
        atItsEnd(1, 0, 7, -9, 5, 7, 9, 6);
        atItsEnd(2, 0, 7, 3, -9, 5, 4, 6);
        atItsEnd(3, 0, 6, -8, 8, 1, 6, 5);
        atItsEnd(4, 0, 3, 6, 6, 8, 1, 7);
        atItsEnd(5, 0, 7, 3, 2, 5, 4, 0);
        due.is(9, "HIGH 2", Due.one(6, -8, 8, 2, 6, 5).moves(0, 3, 0), 3);
        due.is(9, "LONG 2", Due.one(3, 6, 6, 8, 2, 7).moves(0, 4, 0), 4);
        due.is(9, "DAMP 1", Due.one(3, 8, -7, 1, 1, 1).moves(0, 5, 0), -1);
        due.is(9, "DAMP 0, 1 more", Due.one(3, 8, -7, 1, 1, 0).moves(0, 5, 1), 1);
    }

    private static void moreOrLess() {
        due.sentence("MOVES: with 1 more (up = 1), with 1 less (0). NO: BAD.");
        SelfSteer x = Due.one(7, 3, 2, 5, 4, 6);
        due.is(9, "1 more", x.moves(0, 0, 1), 3);
        due.is(9, "1 less", x.moves(0, 0, 0), -4);
        due.is(9, "the last NUMBER", x.moves(0, 5, 1), 3);
        due.is(9, "up -1", x.moves(0, 0, -1), NO);
        due.is(9, "up 2", x.moves(0, 0, 2), NO);
        due.is(9, "NUMBER -1", x.moves(0, -1, 0), NO);
        due.is(9, "NUMBER 6", x.moves(0, 6, 0), NO);
        // No SPEEDS, and none with 1 more: that is 0, not NO.
        due.is(9, "nothing to move", new SelfSteer().moves(0, 0, 1), 0);
    }

    private static void grid(int one, int other, int many, int first, int second, int... numbers) {
        SelfSteer x = Due.one(numbers);
        due.is(10, "grid " + one + ", " + other, x.grid(0, one, other, 0), many);
        due.is(10, "the one's of grid " + one + ", " + other, x.grid(0, one, other, 1), first);
        due.is(10, "the other one's of grid " + one + ", " + other, x.grid(0, one, other, 2), second);
        for (int k = 0; k < 6; k++) due.is(3, "NUMBER " + k + " is as it was", x.has(0, k), numbers[k]);
    }

    private static void allThatTheyMayBe() {
        due.sentence("of BICYCLES with two NUMBERS (one, then another) of all that they may be, others as they are");
        // Each has a RANGE at an end of the one, and would have one beyond it, too.
        grid(0, 1, 10, -9, -9, 6, -5, 6, 4, 7, 1);
        grid(0, 1, 9, 1, 9, -8, -8, -5, 4, 9, 7);
        grid(1, 2, 179, -9, 4, 6, -2, 4, 6, 9, 6);
        grid(2, 3, 57, 1, 9, 5, -6, -4, 5, 8, 8);
        grid(3, 4, 81, 1, 1, 2, 8, 0, 9, 3, 9);
        grid(3, 4, 72, 1, 2, 5, 3, 2, 4, 7, 9);
        grid(4, 5, 46, 1, 7, 7, 9, 8, 1, 5, 3);
        grid(4, 5, 40, 1, 8, 6, 7, 7, 2, 5, 1);
        grid(5, 0, 52, 2, 1, 4, 9, 3, 8, 3, 0);
        grid(3, 4, 81, 1, 1, 9, 6, 2, 5, 5, 9);
    }

    private static void theFirstOfAGrid() {
        due.sentence("how many have a RANGE; the first (by the one, then the other)");
        grid(0, 1, 46, 1, 5, 7, -4, 5, 7, 2, 6);
        grid(1, 0, 46, -2, 9, 7, -4, 5, 7, 2, 6);
        grid(1, 4, 1, 9, 1, 2, -7, -1, 4, 3, 2);
    }

    private static void noGridOfOne() {
        due.sentence("NO: BAD (one and the same NUMBER, too), none.");
        grid(2, 3, 0, NO, NO, 0, 0, 0, 9, 4, 0);
        SelfSteer x = Due.one(7, 3, 2, 5, 4, 6);
        for (int k = 0; k < 6; k++)
            for (int what = 0; what <= 2; what++) due.is(10, "one and the same " + k, x.grid(0, k, k, what), NO);
        due.is(10, "the first one -1", x.grid(0, -1, 0, 0), NO);
        due.is(10, "the first one 6", x.grid(0, 6, 0, 0), NO);
        due.is(10, "the other one -1", x.grid(0, 0, -1, 0), NO);
        due.is(10, "the other one 6", x.grid(0, 0, 6, 0), NO);
        due.is(10, "the last two", x.grid(0, 5, 4, 0), Due.one(7, 3, 2, 5, 4, 6).grid(0, 4, 5, 0));
        due.is(10, "what -1", x.grid(0, 0, 1, -1), NO);
        due.is(10, "what 3", x.grid(0, 0, 1, 3), NO);
    }

    private static void leastSizes() {
        due.sentence("it STAYS at a SPEED (0 .. 99; of k and -k: k above 0 first)");
        due.is(11, "0: it stays alone", Due.one(7, 3, 2, 5, 4, 6).least(0, 8, 0), 0);
        due.is(11, "1", Due.one(4, 6, -1, 9, 3, 7).least(0, 2, 95), 1);
        due.is(11, "-1", Due.one(4, 4, 5, 2, 2, 5).least(0, 4, 65), -1);
        due.is(11, "98", Due.one(3, 3, 8, 5, 7, 8).least(0, 1, 91), 98);
        due.is(11, "99", Due.one(4, 2, -1, 9, 9, 5).least(0, 1, 71), 99);
        due.is(11, "100 would do", Due.one(3, 1, -6, 9, 8, 4).least(0, 1, 84), NO);
        due.is(11, "as far below 0 as it goes", Due.one(5, 9, 9, 1, 6, 4).least(0, 13, 37), -17);
    }

    private static void noLeast() {
        due.sentence("LEAST k. NO: BAD, NONE.");
        SelfSteer x = Due.one(7, 3, 2, 5, 4, 6);
        due.is(11, "at SPEED 0", x.least(0, 0, 0), NO);
        due.is(11, "SPEED -1", x.least(0, -1, 0), NO);
        due.is(11, "SPEED 40", Due.one(8, 2, 2, 1, 9, 6).least(0, 40, 0), 0);
        due.is(11, "SPEED 41", Due.one(8, 2, 2, 1, 9, 6).least(0, 41, 0), NO);
        due.is(11, "m 99", new SelfSteer().least(0, 1, 99), 0);
        due.is(11, "m 100", new SelfSteer().least(0, 1, 100), NO);
        // Nothing stays up with so much done against it, so both are NO.
        due.is(11, "m -99", x.least(0, 8, -99), NO);
        due.is(11, "m -100", x.least(0, 8, -100), NO);
    }

    private static void measured(int set, int want, int... numbers) {
        due.is(12, "spread with " + set + " measured", Due.one(numbers).spread(0, set), want);
    }

    private static void whereItMay() {
        due.sentence("each NUMBER could be 1 less or 1 more, or as it is (where it may)");
        // All but one are measured, and this one is at its end: beyond it the SPREAD would be more.
        measured(62, 6, 9, -2, 6, 5, 2, 8);
        measured(62, 1, -9, -9, 2, 8, 7, 2);
        measured(61, 21, 3, 9, -7, 2, 5, 6);
        measured(61, 2, 7, -9, 4, 6, 7, 7);
        measured(59, 2, 7, -7, 9, 1, 9, 2);
        measured(59, 0, 7, 3, -9, 5, 4, 6);
        measured(55, 1, 7, 2, 0, 9, 3, 4);
        measured(55, 1, 8, -2, 3, 1, 2, 5);
        measured(47, 2, 9, -1, 2, 9, 9, 3);
        measured(47, 7, 8, 8, -3, 1, 1, 9);
        measured(31, 4, 8, 1, 6, 8, 5, 9);
        measured(31, 1, 3, 8, -7, 1, 1, 0);
    }

    private static void theGreatestLessTheLeast() {
        due.sentence("SPREAD: the greatest less the least number of SPEEDS in a RANGE over all of these");
        // Only where all six are 1 more are there 14, only where all are 1 less are there 36.
        measured(0, 14, 7, -6, 1, 6, 3, 7);
        measured(0, 36, 2, 7, -4, 2, 2, 8);
        measured(63, 0, 7, -6, 1, 6, 3, 7);
    }

    private static void sets0To63() {
        due.sentence("SPREAD with a set measured (bits 0 .. 63). BAD.");
        measured(0, 26, 7, 3, 2, 5, 4, 6);
        measured(63, 0, 7, 3, 2, 5, 4, 6);
        measured(-1, BAD, 7, 3, 2, 5, 4, 6);
        measured(64, BAD, 7, 3, 2, 5, 4, 6);
        measured(0, 38, 9, -5, 6, 2, 9, 6);
        measured(0, 0, 2, 3, 2, 5, 4, 3);
    }

    private static void fewest(int d, int set, int... numbers) {
        SelfSteer x = Due.one(numbers);
        due.is(13, "how many for " + d, x.fewest(0, d, 0), set < 0 ? set : Integer.bitCount(set));
        due.is(13, "the set for " + d, x.fewest(0, d, 1), set);
    }

    private static void dAtMost() {
        due.sentence("the fewest NUMBERS to measure so that SPREAD is d (0 .. 40) at most");
        int[] seven = {7, -5, 9, 6, 5, 5};
        fewest(-1, BAD, seven);
        fewest(0, 63, seven);
        fewest(1, 63, seven);
        fewest(2, 59, seven);
        fewest(4, 51, seven);
        fewest(5, 49, seven);
        fewest(7, 49, seven);
        fewest(8, 17, seven);
        fewest(13, 3, seven);
        fewest(14, 1, seven);
        fewest(18, 1, seven);
        fewest(19, 0, seven);
        fewest(40, 0, seven);
        fewest(41, BAD, seven);
        fewest(0, 0, 2, 3, 2, 5, 4, 3);
        fewest(37, 1, 8, 8, -7, 3, 7, 4);
        fewest(38, 0, 8, 8, -7, 3, 7, 4);
    }

    private static void theLeastSet() {
        due.sentence("of several the least set (bits)");
        fewest(3, 55, 7, -5, 9, 6, 5, 5);
        fewest(0, 6, 8, 8, -7, 3, 7, 4);
        fewest(33, 16, 8, 8, -7, 3, 7, 4);
        fewest(34, 1, 8, 8, -7, 3, 7, 4);
        fewest(1, 49, 9, 9, -1, 4, 1, 9);
        fewest(2, 18, 9, 9, -1, 4, 1, 9);
        fewest(10, 33, 8, 3, 0, 3, 5, 5);
    }

    private static void howManyOrTheSet() {
        due.sentence("FEWEST: how many (what = 0), the set (1). BAD.");
        SelfSteer x = Due.one(7, 3, 2, 5, 4, 6);
        due.is(13, "what 0", x.fewest(0, 0, 0), 5);
        due.is(13, "what 1", x.fewest(0, 0, 1), 55);
        due.is(13, "what -1", x.fewest(0, 0, -1), BAD);
        due.is(13, "what 2", x.fewest(0, 0, 2), BAD);
    }

    public static void main(String[] args) {
        bicycles0To3();
        numbers0To2();
        withoutWhatIs0();
        holdsOrNot();
        sixAtMost();
        changesToWhatTheyMayBe();
        noneAtAll();
        theFirstOfSeveral();
        asMuchAsItMayBe();
        asLittleAsItMayBe();
        moreOrLess();
        allThatTheyMayBe();
        theFirstOfAGrid();
        noGridOfOne();
        leastSizes();
        noLeast();
        whereItMay();
        theGreatestLessTheLeast();
        sets0To63();
        dAtMost();
        theLeastSet();
        howManyOrTheSet();
        due.end();
    }
}
