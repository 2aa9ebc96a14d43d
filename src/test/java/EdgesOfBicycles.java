/** The boundary cases that the document names of a new object and of bicycles: one test for each sentence. */
public final class EdgesOfBicycles {
    private static final int[] FIRST = {2, 3, 2, 5, 4, 3};
    private static final long LEAST_LONG = Long.MIN_VALUE;
    private static final int NO = SelfSteer.NO, BAD = SelfSteer.BAD;
    private static final Due due = new Due("EdgesOfBicycles");

    private static void the512thCall() {
        due.sentence("An object is used for at most 512 calls after it has been made");
        SelfSteer x = new SelfSteer();
        for (int call = 1; call <= 511; call++) x.score(6, 0);
        due.is(29, "the 512th call", x.trace(), 511L * 1000001);
        x = new SelfSteer();
        x.number(0, 3, 9);
        for (int call = 2; call <= 509; call++) x.ticks(200);
        due.is(18, "the 510th call", x.push(1), 1);
        due.is(20, "the 511th call", x.at(4), 508 * 200);
        due.is(19, "the 512th call", x.ticks(200), 200);
    }

    private static void constants() {
        due.sentence("`NO = -1000000`: What none is, where a number may be below 0.");
        due.is(1, "NO", SelfSteer.NO, -1000000);
        due.is(10, "none in a grid", Due.one(2, 3, 2, 5, 4, 0).grid(0, 2, 3, 1), -1000000);
        due.is(11, "no least", new SelfSteer().least(0, 0, 0), -1000000);
        due.is(8, "no change", new SelfSteer().reason(0, 0, 1), -1000000);
        due.sentence("public static final int BAD = -1, STATE = -2, FULL = -3, NONE = -9;");
        due.is(1, "BAD", SelfSteer.BAD, -1);
        due.is(1, "STATE", SelfSteer.STATE, -2);
        due.is(1, "FULL", SelfSteer.FULL, -3);
        due.is(1, "NONE", SelfSteer.NONE, -9);
    }

    private static void anEmptyObject() {
        due.sentence("As told; THE RIDE is of BICYCLE 0 at SPEED 0.");
        SelfSteer x = new SelfSteer();
        for (int i = 0; i < 4; i++) due.is(1, "range(" + i + ")", x.range(i), 0);
        due.is(1, "bytes of THE TEXT", x.count(1), 0);
        due.is(1, "ITEMS of THE RIDER", x.count(0), 0);
        due.is(1, "SPEEDS of all RANGES", x.count(2), 0);
        for (int what = 0; what <= 6; what++) due.is(1, "at(" + what + ")", x.at(what), 0);
        due.is(1, "TICKS that it had", x.ride(0, 0, 0), 0);
        due.is(1, "clear()", x.clear(), 0);
        due.is(1, "an empty text's rider()", x.rider(), 0);
        due.is(1, "trace()", x.trace(), 0);
        due.is(1, "IMAGE 0", x.back(0), SelfSteer.STATE);
        due.is(1, "IMAGE 1", x.back(1), SelfSteer.STATE);
        // Its bar does nothing to the lean at SPEED 0, and another BICYCLE's NUMBERS do nothing at all.
        x = new SelfSteer();
        for (int i = 1; i < 4; i++) Due.make(x, i, 9, 9, 9, 9, 9, 9);
        x.push(400);
        x.ticks(2);
        due.is(1, "P of BICYCLE 0 at SPEED 0", x.at(2), 100 + 5 * 405 / 20);
        x = new SelfSteer();
        Due.rider(x, "lean 10;");
        x.push(40);
        x.ticks(1);
        due.is(1, "its bar is not REVERSED", x.at(6), 40);
    }

    private static void bicycles0To3() {
        due.sentence("1 BICYCLES 0 .. ");
        due.sentence("3 have NUMBERS 0 SPIN s");
        SelfSteer x = new SelfSteer();
        for (int i = 0; i < 4; i++) due.is(2, "number(" + i + ", 0, " + i + ")", x.number(i, 0, i), 2);
        for (int i = 0; i < 4; i++) due.is(3, "has(" + i + ", 0)", x.has(i, 0), i);
        due.is(2, "BICYCLE -1", x.number(-1, 0, 1), NO);
        due.is(2, "BICYCLE 4", x.number(4, 0, 1), NO);
        due.is(3, "BICYCLE -1", x.has(-1, 0), NO);
        due.is(3, "BICYCLE 4", x.has(4, 0), NO);
        due.is(4, "BICYCLE -1", x.sign(-1, 1, 0, 0, 0), LEAST_LONG);
        due.is(4, "BICYCLE 4", x.sign(4, 1, 0, 0, 0), LEAST_LONG);
        due.is(5, "BICYCLE -1", x.stays(-1, 1, 0, 0), BAD);
        due.is(5, "BICYCLE 4", x.stays(4, 1, 0, 0), BAD);
        due.is(6, "BICYCLE -1", x.range(-1), -1);
        due.is(6, "BICYCLE 4", x.range(4), -1);
        due.is(3, "the last NUMBER", x.has(0, 5), 3);
        due.is(3, "NUMBER -1", x.has(0, -1), NO);
        due.is(3, "NUMBER 6", x.has(0, 6), NO);
        due.is(2, "NUMBER -1", x.number(0, -1, 1), NO);
        due.is(2, "NUMBER 6", x.number(0, 6, 1), NO);
    }

    /** From its least to its greatest, not one beyond; and it is what it is at first. */
    private static void numberEnds(String quoted, int k, int lowest, int first) {
        due.sentence(quoted);
        SelfSteer x = new SelfSteer();
        for (int i = 0; i < 4; i++) {
            due.is(1, "NUMBER " + k + " at first", x.has(i, k), first);
            due.is(2, "NUMBER " + k + " too small", x.number(i, k, lowest - 1), NO);
            due.is(2, "NUMBER " + k + " too large", x.number(i, k, 10), NO);
            due.is(3, "NUMBER " + k + " is as it was", x.has(i, k), first);
            due.is(2, "NUMBER " + k + " the least", x.number(i, k, lowest), first);
            due.is(3, "NUMBER " + k + " the least", x.has(i, k), lowest);
            due.is(2, "NUMBER " + k + " the greatest", x.number(i, k, 9), lowest);
            due.is(3, "NUMBER " + k + " the greatest", x.has(i, k), 9);
            due.is(2, "NUMBER " + k + " to what it is", x.number(i, k, 9), 9);
            for (int other = 0; other < 6; other++)
                if (other != k) due.is(3, "NUMBER " + other + " beside " + k, x.has(i, other), FIRST[other]);
        }
    }

    private static void numbersEnds() {
        numberEnds("0 SPIN s (-9 .. 9; 2 at first)", 0, -9, 2);
        numberEnds("1 TRAIL t (-9 .. 9; 3)", 1, -9, 3);
        numberEnds("2 FRONT f (-9 .. 9; 2)", 2, -9, 2);
        numberEnds("3 HIGH h (1 .. 9; 5)", 3, 1, 5);
        numberEnds("4 LONG l (1 .. 9; 4)", 4, 1, 4);
        numberEnds("5 DAMP w (0 .. 9; 3)", 5, 0, 3);
    }

    private static void speeds0To40() {
        due.sentence("SPEEDS v 0 .. 40.");
        SelfSteer x = new SelfSteer();
        due.is(4, "SIGN 0 at SPEED 0", x.sign(0, 0, 0, 0, 0), 0);
        due.is(4, "SIGN 0 at SPEED 1", x.sign(0, 1, 0, 0, 0), 500 - 150);
        due.is(4, "SIGN 0 at SPEED 40", x.sign(0, 40, 0, 0, 0), 1600 * 350);
        due.is(4, "SPEED -1", x.sign(0, -1, 0, 0, 0), LEAST_LONG);
        due.is(4, "SPEED 41", x.sign(0, 41, 0, 0, 0), LEAST_LONG);
        due.is(5, "at SPEED 0", x.stays(0, 0, 0, 0), 1);
        due.is(5, "at SPEED 40", x.stays(0, 40, 0, 0), 2);
        due.is(5, "SPEED -1", x.stays(0, -1, 0, 0), BAD);
        due.is(5, "SPEED 41", x.stays(0, 41, 0, 0), BAD);
    }

    private static void whatIsDoneAtALean() {
        due.sentence("k (-99 .. 99, what is done at a lean)");
        SelfSteer x = new SelfSteer();
        due.is(4, "k 99", x.sign(0, 1, 99, 0, 0), 100 * 104 - 150);
        due.is(4, "k -99", x.sign(0, 1, -99, 0, 0), 100 * -94 - 150);
        due.is(4, "k 100", x.sign(0, 1, 100, 0, 0), LEAST_LONG);
        due.is(4, "k -100", x.sign(0, 1, -100, 0, 0), LEAST_LONG);
        due.is(5, "k 99", x.stays(0, 1, 99, 0), 2);
        due.is(5, "k -99", x.stays(0, 1, -99, 0), 1);
        due.is(5, "k 100", x.stays(0, 1, 100, 0), BAD);
        due.is(5, "k -100", x.stays(0, 1, -100, 0), BAD);
    }

    private static void whatIsDoneAtItsChange() {
        due.sentence("m (-99 .. 99, at its change)");
        SelfSteer x = new SelfSteer();
        due.is(4, "m 99", x.sign(0, 1, 0, 99, 2), 30 - 2000 + 8 * 992);
        due.is(4, "m -99", x.sign(0, 1, 0, -99, 2), 30 - 2000 + 8 * -988);
        due.is(4, "m 100", x.sign(0, 1, 0, 100, 2), LEAST_LONG);
        due.is(4, "m -100", x.sign(0, 1, 0, -100, 2), LEAST_LONG);
        due.is(5, "m 99", x.stays(0, 1, 0, 99), 0);
        due.is(5, "m -99", x.stays(0, 1, 0, -99), 2);
        due.is(5, "m 100", x.stays(0, 1, 0, 100), BAD);
        due.is(5, "m -100", x.stays(0, 1, 0, -100), BAD);
    }

    private static void allFourSigns(SelfSteer x, int k, int m, long... signs) {
        for (int j = 0; j < 4; j++) due.is(4, "SIGN " + j + " with " + k + ", " + m, x.sign(0, 40, k, m, j), signs[j]);
    }

    /** Nothing wraps around: not the SIGNS where all is at its end, nor what is made of them. */
    private static void farWholeNumbers() {
        due.sentence("each by 100 l, whole numbers");
        SelfSteer x = Due.one(-9, 9, 9, 9, 9, 9);
        allFourSigns(x, 99, 99, 17424000, 6216300, -1905300, 8100);
        allFourSigns(x, 99, -99, 17424000, -25463700, 4509900, 8100);
        allFourSigns(x, -99, -99, -14256000, -19048500, 4509900, 8100);
        x = Due.one(9, -9, -9, 9, 9, 9);
        allFourSigns(x, 99, 99, 14256000, 24151500, 4221900, 8100);
        allFourSigns(x, -99, 99, -17424000, 17736300, 4221900, 8100);
        allFourSigns(x, -99, -99, -17424000, -13943700, -2193300, 8100);
        due.is(5, "857613200652000000 is above 532696912164000000", Due.one(9, 1, 5, 2, 9, 9).stays(0, 40, 83, 98), 0);
        due.is(5, "442770192384000000 is not above 465290627072000000", Due.one(9, 0, 3, 5, 8, 6).stays(0, 40, 96, 97), 2);
    }

    private static void signs0To3() {
        due.sentence("SIGN j (0 .. 3). BAD: the least long.");
        SelfSteer x = new SelfSteer();
        due.is(4, "SIGN 0", x.sign(0, 10, 0, 0, 0), 35000);
        due.is(4, "SIGN 3", x.sign(0, 10, 0, 0, 3), 1200);
        due.is(4, "SIGN -1", x.sign(0, 10, 0, 0, -1), LEAST_LONG);
        due.is(4, "SIGN 4", x.sign(0, 10, 0, 0, 4), LEAST_LONG);
        due.is(4, "two wrong at once", x.sign(4, 41, 0, 0, 4), LEAST_LONG);
    }

    private static void aSignThatIs0() {
        due.sentence("It STAYS, if all four are above 0");
        SelfSteer x = Due.one(6, -5, 4, 2, 9, 2);
        due.is(4, "SIGN 0", x.sign(0, 9, 0, 0, 0), 0);
        due.is(5, "all else would do: 1800 20394 35280 is above 900 35280 35280", x.stays(0, 9, 0, 0), 1);
        due.is(6, "its RANGE", x.range(0), 0);
        x = Due.one(5, 7, 5, 2, 2, 7);
        due.is(4, "SIGN 1", x.sign(0, 2, 0, 0, 1), 0);
        due.is(5, "SIGN 1 is 0", x.stays(0, 2, 0, 0), 2);
        x = Due.one(5, 5, 7, 3, 6, 5);
        due.is(4, "SIGN 2", x.sign(0, 3, 0, 0, 2), 0);
        due.is(5, "SIGN 2 is 0", x.stays(0, 3, 0, 0), 2);
        x = Due.one(7, 7, -1, 2, 3, 0);
        due.is(4, "SIGN 3", x.sign(0, 7, 0, 0, 3), 0);
        due.is(5, "SIGN 3 is 0", x.stays(0, 7, 0, 0), 2);
    }

    private static void signsBelow0() {
        due.sentence("It STAYS, if all four are above 0");
        SelfSteer x = Due.one(3, 9, -6, 5, 6, 5);
        due.is(4, "SIGN 0", x.sign(0, 23, 0, 0, 0), -79350);
        due.is(5, "SIGN 0 alone is below 0", x.stays(0, 23, 0, 0), 1);
        // Two below 0 give more than 0, and more than what it must be above: they do not do for it.
        x = Due.one(-1, -9, 5, 5, 5, 7);
        due.is(4, "SIGN 1", x.sign(0, 18, 0, 0, 1), -72220);
        due.is(4, "SIGN 2", x.sign(0, 18, 0, 0, 2), -30040);
        due.is(5, "SIGNS 1 and 2 are below 0", x.stays(0, 18, 0, 0), 2);
        due.is(6, "its RANGE", x.range(0), 0);
        x = Due.one(7, -5, -7, 3, 6, 9);
        due.is(4, "SIGN 1 with k, m", x.sign(0, 27, 69, -87, 1), -4334310);
        due.is(4, "SIGN 2 with k, m", x.sign(0, 27, 69, -87, 2), -810504);
        due.is(5, "SIGNS 1 and 2 are below 0 with k, m", x.stays(0, 27, 69, -87), 2);
    }

    private static void asMuchIsNotAbove() {
        due.sentence("SIGN 3 times SIGN 2 times SIGN 1 is above these two added");
        SelfSteer x = Due.one(1, 4, -3, 1, 5, 3);
        long[] s = {x.sign(0, 10, 0, 0, 0), x.sign(0, 10, 0, 0, 1), x.sign(0, 10, 0, 0, 2), x.sign(0, 10, 0, 0, 3)};
        due.is(4, "both are the same", s[3] * s[2] * s[1], 500 * s[1] * s[1] + s[3] * s[3] * s[0]);
        due.is(5, "as much is not above", x.stays(0, 10, 0, 0), 2);
        due.is(6, "nor in a RANGE", x.range(0) >> 10 & 1, 0);
        // 1 more of DAMP is enough.
        x.number(0, 5, 4);
        due.is(5, "above", x.stays(0, 10, 0, 0), 0);
        due.is(6, "and in its RANGE", x.range(0) >> 10 & 1, 1);
    }

    private static void capsizesOrWeaves() {
        due.sentence("It CAPSIZES, if it does not STAY and SIGN 0 is 0 or below; else it WEAVES, where it does not STAY.");
        SelfSteer x = Due.one(9, 9, -1, 9, 9, 4);
        due.is(4, "SIGN 0", x.sign(0, 1, 0, 0, 0), -10);
        due.is(5, "just below 0", x.stays(0, 1, 0, 0), 1);
        due.is(4, "SIGN 0 at rest", x.sign(0, 0, 0, 0, 0), 0);
        due.is(5, "0", x.stays(0, 0, 0, 0), 1);
        x = Due.one(-8, 9, -8, 1, 9, 2);
        due.is(4, "SIGN 0", x.sign(0, 1, 0, 0, 0), 10);
        due.is(5, "the least above 0", x.stays(0, 1, 0, 0), 2);
    }

    private static void rangeAsBits() {
        due.sentence("RANGE: SPEEDS at which it STAYS alone (k, m 0), as bits.");
        due.is(6, "none", new SelfSteer().range(0), 0);
        due.is(6, "SPEED 2 alone", Due.one(3, 8, -7, 1, 1, 1).range(0), 4);
        due.is(6, "SPEED 32 alone", Due.one(1, 4, 2, 3, 8, 9).range(0), 1L << 32);
        due.is(6, "14 .. 31", Due.one(1, 3, -2, 1, 6, 9).range(0), 0xffffc000L);
        due.is(6, "3 .. 40, though 41 would do", Due.one(8, 2, 2, 1, 9, 6).range(0), (1L << 41) - 8);
        SelfSteer x = Due.one(7, 3, 2, 5, 4, 6);
        for (int v = 0; v <= 40; v++)
            due.is(6, "SPEED " + v, x.range(0) >> v & 1, x.stays(0, v, 0, 0) == 0 ? 1 : 0);
    }

    public static void main(String[] args) {
        the512thCall();
        constants();
        anEmptyObject();
        bicycles0To3();
        numbersEnds();
        speeds0To40();
        whatIsDoneAtALean();
        whatIsDoneAtItsChange();
        farWholeNumbers();
        signs0To3();
        aSignThatIs0();
        signsBelow0();
        asMuchIsNotAbove();
        capsizesOrWeaves();
        rangeAsBits();
        due.end();
    }
}
