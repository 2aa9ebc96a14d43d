/** A new object, and what is asked of bicycles: number, has, sign, stays, range. */
public final class Promises1To6 {
    private static final int[] FIRST = {2, 3, 2, 5, 4, 3};
    private static final int[] LOWEST = {-9, -9, -9, 1, 1, 0};
    private static final int FAR = Integer.MIN_VALUE, HUGE = Integer.MAX_VALUE;
    private static final Due due = new Due("Promises1To6");

    private static void newObject() {
        SelfSteer x = new SelfSteer();
        for (int i = 0; i < 4; i++)
            for (int k = 0; k < 6; k++) due.is(1, "has(" + i + ", " + k + ")", x.has(i, k), FIRST[k]);
        for (int what = 0; what <= 6; what++) due.is(1, "at(" + what + ")", x.at(what), 0);
        due.is(1, "count(0)", x.count(0), 0);
        due.is(1, "count(1)", x.count(1), 0);
        due.is(1, "habit(0, 0)", x.habit(0, 0), 100);
        due.is(1, "habit(1, 0)", x.habit(1, 0), 0);
        due.is(1, "tune(0, 5)", x.tune(0, 5), 5);
        due.is(1, "tune(1, 3)", x.tune(1, 3), 3);
        due.is(1, "trace()", x.trace(), 0);
        due.is(1, "back(0)", x.back(0), SelfSteer.STATE);
        due.is(1, "back(1)", x.back(1), SelfSteer.STATE);
        // THE RIDE is of BICYCLE 0: a NUMBER of it counts; at SPEED 0: the bar does not move the lean.
        x.number(0, 3, 9);
        x.push(100);
        x.ticks(1);
        due.is(1, "at(2) of BICYCLE 0", x.at(2), 45);
        x = new SelfSteer();
        Due.rider(x, "lean 99;");
        x.push(10);
        x.ticks(40);
        due.is(1, "at SPEED 0 the lean goes alone", x.at(0), 215);
        due.is(1, "the bar is not REVERSED", x.at(1), 266);
        due.is(1, "constants", SelfSteer.BAD * 1000 + SelfSteer.STATE * 100 + SelfSteer.FULL * 10 + SelfSteer.NONE, -1239);
        due.is(1, "NO", SelfSteer.NO, -1000000);
        SelfSteer a = new SelfSteer(), b = new SelfSteer();
        a.number(2, 2, 7);
        due.is(1, "another object's has(2, 2)", b.has(2, 2), 2);
    }

    private static void numbers() {
        SelfSteer x = new SelfSteer();
        for (int i = 0; i < 4; i++)
            for (int k = 0; k < 6; k++) {
                due.is(2, "number to the least", x.number(i, k, LOWEST[k]), FIRST[k]);
                due.is(2, "number below the least", x.number(i, k, LOWEST[k] - 1), SelfSteer.NO);
                due.is(2, "number to 9", x.number(i, k, 9), LOWEST[k]);
                due.is(2, "number to 10", x.number(i, k, 10), SelfSteer.NO);
                due.is(3, "has", x.has(i, k), 9);
                due.is(2, "number to 1", x.number(i, k, 1), 9);
                due.is(3, "has", x.has(i, k), 1);
            }
        for (int wrong : new int[] {-1, 4, FAR, HUGE}) due.is(2, "number of no BICYCLE", x.number(wrong, 0, 1), SelfSteer.NO);
        for (int wrong : new int[] {-1, 6, FAR, HUGE}) due.is(2, "no NUMBER", x.number(0, wrong, 1), SelfSteer.NO);
        for (int wrong : new int[] {-1, 4, FAR, HUGE}) due.is(3, "has of no BICYCLE", x.has(wrong, 0), SelfSteer.NO);
        for (int wrong : new int[] {-1, 6, FAR, HUGE}) due.is(3, "has no NUMBER", x.has(0, wrong), SelfSteer.NO);
        due.is(2, "number with FAR", x.number(0, 0, FAR), SelfSteer.NO);
        due.is(2, "number with HUGE", x.number(0, 0, HUGE), SelfSteer.NO);
    }

    private static void signs() {
        SelfSteer x = new SelfSteer();
        due.is(4, "SIGN 3", x.sign(0, 10, 50, 50, 3), 1200);
        due.is(4, "SIGN 2", x.sign(0, 10, 0, 0, 2), 3000 - 2000 + 80 * 20);
        due.is(4, "SIGN 2 with m", x.sign(0, 10, 9, 3, 2), 3000 - 2000 + 80 * 50);
        due.is(4, "SIGN 1", x.sign(0, 10, 0, 0, 1), 200 * 120 - 6000);
        due.is(4, "SIGN 1 with k, m", x.sign(0, 10, 7, -3, 1), 200 * 148 - 6000 - 30000);
        due.is(4, "SIGN 0", x.sign(0, 10, 0, 99, 0), 50000 - 15000);
        due.is(4, "SIGN 0 with k", x.sign(0, 10, -8, 0, 0), -30000 - 15000);
        due.is(4, "SIGN 0 at rest", x.sign(0, 0, 99, 99, 0), 0);
        due.is(4, "SIGN 1 at rest", x.sign(0, 0, 99, 99, 1), -6000);
        due.is(4, "SIGN 2 at rest", x.sign(0, 0, 99, 99, 2), -2000);
        Due.make(x, 3, -9, 9, 9, 9, 9, 9);
        due.is(4, "SIGN 2 far out", x.sign(3, 40, 99, -99, 2), 144000 - 8100 + 9L * -360 * (-360 - 990));
        due.is(4, "SIGN 1 far out", x.sign(3, 40, 99, -99, 1), -3600L * (1600 + 9 * 117) - 72900 - 15840000);
        due.is(4, "SIGN 0 far out", x.sign(3, 40, 99, -99, 0), 160000L * 117 - 10L * 81 * 1600);
        due.is(4, "SIGN 3 far out", x.sign(3, 40, 99, -99, 3), 8100);
        long least = Long.MIN_VALUE;
        for (int w : new int[] {-1, 4, FAR, HUGE}) due.is(4, "no BICYCLE " + w, x.sign(w, 0, 0, 0, 0), least);
        for (int w : new int[] {-1, 41, FAR, HUGE}) due.is(4, "no SPEED " + w, x.sign(0, w, 0, 0, 0), least);
        for (int w : new int[] {-100, 100, FAR, HUGE}) due.is(4, "no k " + w, x.sign(0, 0, w, 0, 0), least);
        for (int w : new int[] {-100, 100, FAR, HUGE}) due.is(4, "no m " + w, x.sign(0, 0, 0, w, 0), least);
        for (int w : new int[] {-1, 4, FAR, HUGE}) due.is(4, "no SIGN " + w, x.sign(0, 0, 0, 0, w), least);
    }

    private static void staying() {
        SelfSteer x = new SelfSteer();
        due.is(5, "at rest it capsizes", x.stays(0, 0, 0, 0), 1);
        due.is(5, "SIGN 0 above 0: it weaves", x.stays(0, 5, 0, 0), 2);
        due.is(5, "SIGN 0 below 0: it capsizes", x.stays(0, 5, -5, 0), 1);
        Due.make(x, 1, 7, 3, 2, 5, 4, 6);
        due.is(5, "stays at 5", x.stays(1, 5, 0, 0), 2);
        due.is(5, "stays at 5 with m 5", x.stays(1, 5, 0, 5), 0);
        due.is(5, "stays at 6", x.stays(1, 6, 0, 0), 0);
        due.is(5, "stays at 18", x.stays(1, 18, 0, 0), 0);
        due.is(5, "stays at 19", x.stays(1, 19, 0, 0), 2);
        due.is(5, "stays at 8 with k -5", x.stays(1, 8, -5, 0), 1);
        // SIGN 2, SIGN 1, and the sum of both: as much as it must be above is not above.
        Due.make(x, 2, 1, 0, 1, 1, 1, 1);
        due.is(5, "SIGN 2 is 0", x.sign(2, 10, 0, 0, 2), 0);
        due.is(5, "stays with SIGN 2 0", x.stays(2, 10, 0, 0), 2);
        Due.make(x, 2, 7, 0, 0, 5, 4, 6);
        due.is(5, "SIGN 0 is 0", x.sign(2, 10, 0, 0, 0), 0);
        due.is(5, "stays with SIGN 0 0", x.stays(2, 10, 0, 0), 1);
        due.is(5, "stays with k 1", x.stays(2, 10, 1, 0), 0);
        Due.make(x, 2, 1, 1, 0, 1, 4, 6);
        due.is(5, "SIGN 1 is 0", x.sign(2, 6, 0, 0, 1), 0);
        due.is(5, "stays with SIGN 1 0", x.stays(2, 6, 0, 0), 2);
        Due.make(x, 2, 1, 4, -3, 1, 5, 3);
        due.is(5, "1500 4000 9000 is 500 9000 9000 and 1500 1500 6000", x.stays(2, 10, 0, 0), 2);
        Due.make(x, 2, 7, 3, 2, 5, 4, 0);
        due.is(5, "without DAMP", x.stays(2, 10, 0, 0), 2);
        for (int w : new int[] {-1, 4, FAR, HUGE}) due.is(5, "no BICYCLE " + w, x.stays(w, 0, 0, 0), -1);
        for (int w : new int[] {-1, 41, FAR, HUGE}) due.is(5, "no SPEED " + w, x.stays(0, w, 0, 0), -1);
        for (int w : new int[] {-100, 100, FAR, HUGE}) due.is(5, "no k " + w, x.stays(0, 0, w, 0), -1);
        for (int w : new int[] {-100, 100, FAR, HUGE}) due.is(5, "no m " + w, x.stays(0, 0, 0, w), -1);
        due.is(5, "k, m at their ends", x.stays(0, 40, -99, 99), 1);
    }

    private static void ranges() {
        SelfSteer x = new SelfSteer();
        due.is(6, "range at first", x.range(0), 0);
        Due.make(x, 1, 7, 3, 2, 5, 4, 6);
        due.is(6, "6 .. 18", x.range(1), 0x7ffc0L);
        Due.make(x, 2, 9, 6, -1, 1, 9, 8);
        due.is(6, "3 .. 40", x.range(2), 0x1fffffffff8L);
        Due.make(x, 3, 6, -3, 4, 6, 7, 3);
        due.is(6, "7 .. 9", x.range(3), 0x380L);
        due.is(6, "range of 0 as before", x.range(0), 0);
        for (int w : new int[] {-1, 4, FAR, HUGE}) due.is(6, "no BICYCLE " + w, x.range(w), -1);
    }

    public static void main(String[] args) {
        newObject();
        numbers();
        signs();
        staying();
        ranges();
        due.end();
    }
}
