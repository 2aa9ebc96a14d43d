/** The boundary cases that the document names of rides: one test for each sentence. */
public final class EdgesOfRides {
    private static final int NO = SelfSteer.NO, BAD = SelfSteer.BAD, STATE = SelfSteer.STATE;
    private static final int[] FLAT = {2, 3, 2, 1, 4, 3};
    private static final Due due = new Due("EdgesOfRides");

    /** A ride of BICYCLE 1 that begins with a PUSH. */
    private static SelfSteer ride(String law, int v, int reversed, int push, int... numbers) {
        SelfSteer x = new SelfSteer();
        Due.rider(x, law);
        Due.make(x, 1, numbers);
        x.ride(1, v, reversed);
        x.push(push);
        return x;
    }

    private static void state(int promise, String what, SelfSteer x, int... want) {
        for (int n = 0; n < want.length; n++) due.is(promise, what + ": at(" + n + ")", x.at(n), want[n]);
    }

    private static void aRideAnew() {
        due.sentence("A lean, B bar, P change of A, Q change of B, whole numbers, 0 at first");
        SelfSteer x = ride("lean 9;", 6, 1, 100, 2, 3, 2, 5, 4, 3);
        due.is(17, "the ride before had no TICKS", x.ride(1, 6, 1), 0);
        x.push(100);
        x.ticks(12);
        due.is(17, "it had 12 TICKS", x.ride(2, 0, 0), 12);
        state(17, "anew", x, 0, 0, 0, 0, 0, 0, 0);
        due.is(19, "nothing moves it", x.ticks(200), 200);
        state(19, "alone", x, 0, 0, 0, 0, 200, 0, 0);
        x.push(1000);
        x.push(1);
        due.is(17, "it lay", x.ride(2, 0, 0), 200);
        state(17, "it lies no more", x, 0, 0, 0, 0, 0, 0, 0);
        due.is(18, "it takes a PUSH", x.push(7), 7);
    }

    private static void ofABicycleAtASpeed() {
        due.sentence("THE RIDE is anew, of a BICYCLE at a SPEED, the bar REVERSED (1) or not (0): TICKS that it had. BAD.");
        SelfSteer x = new SelfSteer();
        x.ticks(3);
        for (int i : new int[] {-1, 4}) due.is(17, "BICYCLE " + i, x.ride(i, 0, 0), BAD);
        for (int v : new int[] {-1, 41}) due.is(17, "SPEED " + v, x.ride(0, v, 0), BAD);
        for (int reversed : new int[] {-1, 2}) due.is(17, "REVERSED " + reversed, x.ride(0, 0, reversed), BAD);
        due.is(17, "THE RIDE is as it was", x.at(4), 3);
        due.is(17, "the greatest of all", x.ride(3, 40, 1), 3);
        due.is(17, "the least of all", x.ride(0, 0, 0), 0);
        // At 40 the bar weighs 1600 fold: B is 5 as the second TICK begins.
        x = ride("", 40, 0, 400, 0, 3, 2, 5, 4, 0);
        x.ticks(2);
        due.is(17, "P at SPEED 40", x.at(2), 100 + (5 * 405 - 1600 * 5 / 4) / 20);
    }

    private static void cut(String where, SelfSteer x, int ticks, int... want) {
        x.ticks(ticks);
        state(19, where, x, want);
    }

    /** Each of these would come out otherwise if just that one quotient were rounded down. */
    private static void cutToward0() {
        due.sentence("/ is cut toward 0");
        cut("HAND / 10", ride("lean -7;", 0, 0, 1, 6, -1, 7, 6, 3, 6), 1, 1, 0, 0, 0, 1, 0, 0);
        cut("P's / 20", ride("", 1, 0, -4, -1, 5, -2, 9, 1, 9), 1, -4, 0, -1, 0, 1, 0, 0);
        cut("v v B / l", ride("", 1, 0, 41, -3, -2, -9, 5, 6, 2), 2, 41, -3, 19, -42, 2, 0, 0);
        cut("s v Q / 10", ride("", 11, 0, -22, -7, -8, -9, 9, 2, 2), 2, -22, 1, -12, 38, 2, 0, 0);
        cut("Q's / 20", ride("", 11, 0, -30, 2, 4, 3, 9, 9, 8), 1, -30, 0, -13, -10, 1, 0, 0);
        cut("s v P / 10", ride("", 3, 0, -8, 9, -5, -2, 3, 9, 7), 2, -8, 0, -2, 4, 2, 0, 0);
        cut("t v v B / (10 l)", ride("", 2, 0, -45, -4, 5, 5, 5, 4, 1), 2, -46, -3, -23, -43, 2, 0, 0);
        cut("P / 20", ride("", 11, 0, -56, -7, 5, 1, 3, 3, 3), 1, -56, 0, -8, -16, 1, 0, 0);
        cut("Q / 20", ride("", 11, 0, 53, -1, -7, 3, 2, 1, 2), 1, 53, 0, 5, -10, 1, 0, 0);
    }

    /** What HAND is in each of 20 TICKS, held against what at() told as the TICK D ago began. */
    private static void late(String word, int what, int d) {
        SelfSteer x = ride(word + " 10;late " + d + ";", 6, 0, 100, 2, 3, 2, 5, 4, 3);
        int[] begun = new int[20];
        for (int n = 0; n < 20; n++) {
            begun[n] = x.at(what);
            x.ticks(1);
            due.is(20, word + " late " + d + " in TICK " + (n + 1), x.at(6), n < d ? 0 : begun[n - d]);
        }
    }

    private static void aheadOfTheFirstTick() {
        due.sentence("all as they were when the TICK D TICKS ago began (0 ahead of the first TICK)");
        for (int d = 0; d <= 5; d++) {
            late("lean", 0, d);
            late("rate", 2, d);
            late("bar", 1, d);
        }
        // A ride that begins anew has no past, however long the one before was.
        SelfSteer x = ride("lean 10;late 5;", 6, 0, 100, 2, 3, 2, 5, 4, 3);
        x.ticks(10);
        x.ride(1, 6, 0);
        x.push(50);
        for (int n = 1; n <= 5; n++) {
            x.ticks(1);
            due.is(20, "anew, TICK " + n, x.at(6), 0);
        }
        x.ticks(1);
        due.is(20, "anew, TICK 6", x.at(6), 50);
        // A RIDER who comes later looks back at TICKS ahead of his time.
        Due.rider(x, "lean 10;late 4;");
        int lean = x.at(0);
        x.ticks(1);
        Due.rider(x, "lean 10;late 1;");
        x.ticks(1);
        due.is(20, "a new RIDER", x.at(6), lean);
    }

    private static void noFartherThanMost() {
        due.sentence("/ 10, no farther from 0 than M");
        int[][] cases = {{59, 59}, {60, 60}, {61, 60}, {1000, 60}, {-59, -59}, {-60, -60}, {-61, -60}, {-1000, -60}};
        for (int[] c : cases) {
            SelfSteer x = ride("lean 10;most 60;", 0, 0, c[0], FLAT);
            x.ticks(1);
            due.is(20, "HAND at " + c[0], x.at(6), c[1]);
            x = ride("lean 10;most 0;", 0, 0, c[0], FLAT);
            x.ticks(1);
            due.is(20, "HAND of most 0 at " + c[0], x.at(6), 0);
        }
        SelfSteer x = ride("lean 99;", 0, 0, 101, FLAT);
        x.ticks(1);
        due.is(20, "999 and not 999.9", x.at(6), 999);
    }

    private static void itsSignTurned() {
        due.sentence("REVERSED: its sign turned");
        int[][] cases = {{60, -60}, {61, -60}, {-60, 60}, {-1000, 60}, {0, 0}};
        for (int[] c : cases) {
            SelfSteer x = ride("lean 10;most 60;", 0, 1, c[0], FLAT);
            x.ticks(1);
            due.is(20, "HAND at " + c[0], x.at(6), c[1]);
            due.is(20, "Q at " + c[0], x.at(3), (5 * c[0] + c[1]) / 20);
        }
    }

    private static void near100000() {
        due.sentence("(P, Q no farther from 0 than 100000)");
        SelfSteer x = ride("", 40, 0, 780, 9, -1, -2, 8, 2, 9);
        due.is(19, "P grows", x.ticks(6), 6);
        state(19, "P ahead of it", x, 397, -2452, 16927, -41555, 6, 0, 0);
        x.ticks(1);
        state(19, "P too large; A is 5000 more", x, 5397, -2564, 100000, -2255, 7, 1, 0);
        x = ride("", 33, 0, 92, 9, -8, -9, 8, 1, 5);
        x.ticks(6);
        state(19, "P ahead of it", x, -454, 1195, -18819, 18742, 6, 0, 0);
        x.ticks(1);
        state(19, "P too small; A is 5000 less", x, -5454, 3122, -100000, 38550, 7, 1, 0);
        x = ride("bar 99;", 36, 0, 958, -6, -5, 9, 5, 1, 1);
        x.ticks(5);
        state(19, "Q ahead of it", x, -619, 1651, -25010, 25058, 5, 0, 999);
        x.ticks(1);
        state(19, "Q too large; B is 5000 more", x, -5619, 6651, -100000, 100000, 6, 1, 999);
        x = ride("bar 99;", 32, 0, 446, -9, -9, -6, 7, 3, 7);
        x.ticks(7);
        state(19, "Q ahead of it", x, 824, -4172, 4991, -45682, 7, 0, -999);
        x.ticks(1);
        state(19, "Q too small; B is 5000 less", x, 1358, -9172, 10699, -100000, 8, 1, -999);
    }

    private static void near10000() {
        due.sentence("(B no farther from 0 than 10000)");
        SelfSteer x = ride("", 36, 0, -654, -6, -8, -5, 8, 8, 0);
        x.ticks(10);
        state(19, "B ahead of it", x, 367, 8808, 6537, 71631, 10, 0, 0);
        x.ticks(1);
        state(19, "B too large", x, 1002, 10000, 12700, 100000, 11, 1, 0);
        x = ride("", 34, 0, 453, -8, -8, -6, 1, 4, 7);
        x.ticks(9);
        state(19, "B ahead of it", x, 953, -5439, 5158, -54048, 9, 0, 0);
        x.ticks(1);
        state(19, "B too small", x, 1467, -10000, 10293, -100000, 10, 1, 0);
    }

    private static void numbersAtTheTick() {
        due.sentence("(NUMBERS as they are at the TICK.)");
        SelfSteer x = ride("", 0, 0, 100, 2, 3, 2, 5, 4, 3);
        x.number(1, 3, 9);
        x.ticks(1);
        due.is(19, "HIGH 9 behind the PUSH", x.at(2), 45);
        x.number(1, 3, 1);
        x.ticks(1);
        due.is(19, "then HIGH 1", x.at(2), 45 + 102 / 20);
        x.number(0, 3, 9);
        x.ticks(1);
        due.is(19, "another BICYCLE's HIGH is nothing to it", x.at(2), 50 + 104 / 20);
    }

    private static void pushes() {
        due.sentence("A PUSH (-1000 .. 1000): A. NO: BAD, or it lies.");
        SelfSteer x = new SelfSteer();
        due.is(18, "-1001", x.push(-1001), NO);
        due.is(18, "1001", x.push(1001), NO);
        due.is(18, "nothing came", x.at(0), 0);
        due.is(18, "0", x.push(0), 0);
        due.is(18, "-1000", x.push(-1000), -1000);
        due.is(18, "1000", x.push(1000), 0);
        due.is(18, "1000 once more", x.push(1000), 1000);
        due.is(18, "and once more", x.push(1000), 2000);
        due.is(18, "it lies", x.push(-1000), NO);
        due.is(18, "it lies, by nothing, too", x.push(0), NO);
        due.is(18, "it lies as it lay", x.at(0), 2000);
        x.ride(0, 0, 0);
        x.push(-1000);
        due.is(18, "below", x.push(-1000), -2000);
        due.is(18, "it lies", x.push(5), NO);
    }

    private static void fallsBehindAPush() {
        due.sentence("It FALLS, if A is above 1000 or below -1000 behind a TICK or a PUSH");
        SelfSteer x = new SelfSteer();
        x.push(1000);
        due.is(20, "1000 does not lie", x.at(5), 0);
        x.push(1);
        due.is(20, "1001 lies", x.at(5), 1);
        x = new SelfSteer();
        x.push(-1000);
        due.is(20, "-1000 does not lie", x.at(5), 0);
        x.push(-1);
        due.is(20, "-1001 lies", x.at(5), 1);
    }

    private static void fallsBehindATick() {
        due.sentence("It FALLS, if A is above 1000 or below -1000 behind a TICK or a PUSH");
        SelfSteer x = ride("", 0, 0, 998, FLAT);
        due.is(19, "a TICK", x.ticks(1), 1);
        state(19, "to 1000", x, 1000, 12, 49, 249, 1, 0, 0);
        x = ride("", 0, 0, 999, FLAT);
        due.is(19, "a TICK", x.ticks(1), 1);
        state(19, "to 1001", x, 1001, 12, 49, 249, 1, 1, 0);
        x = ride("", 0, 0, -998, FLAT);
        due.is(19, "a TICK", x.ticks(1), 1);
        state(19, "to -1000", x, -1000, -12, -49, -249, 1, 0, 0);
        x = ride("", 0, 0, -999, FLAT);
        due.is(19, "a TICK", x.ticks(1), 1);
        state(19, "to -1001", x, -1001, -12, -49, -249, 1, 1, 0);
    }

    private static void noTicksAnyMore() {
        due.sentence("and lies then: no TICKS any more");
        SelfSteer x = ride("lean 5;", 0, 0, 999, FLAT);
        x.ticks(1);
        int[] lain = new int[7];
        for (int what = 0; what < 7; what++) lain[what] = x.at(what);
        due.is(19, "it lies", x.ticks(1), STATE);
        due.is(19, "it lies, for 200, too", x.ticks(200), STATE);
        state(19, "as it lay", x, lain);
        x = new SelfSteer();
        x.push(1000);
        x.push(1000);
        due.is(19, "pushed over ahead of the first TICK", x.ticks(1), STATE);
        due.is(20, "no TICKS", x.at(4), 0);
        x.ride(0, 0, 0);
        due.is(19, "it stands up with a new ride", x.ticks(1), 1);
    }

    private static void ticks1To200() {
        due.sentence("n TICKS (1 .. 200), fewer, if it FALLS: how many. BAD; STATE: it lies.");
        SelfSteer x = new SelfSteer();
        due.is(19, "0", x.ticks(0), BAD);
        due.is(19, "201", x.ticks(201), BAD);
        due.is(19, "-1", x.ticks(-1), BAD);
        due.is(20, "none came", x.at(4), 0);
        due.is(19, "1", x.ticks(1), 1);
        due.is(19, "200", x.ticks(200), 200);
        due.is(20, "all came", x.at(4), 201);
        // A PUSH of 10 at SPEED 0 makes it fall in TICK 54.
        x = new SelfSteer();
        x.push(10);
        due.is(19, "53", x.ticks(53), 53);
        due.is(20, "it does not lie yet", x.at(5), 0);
        due.is(19, "1 of 200", x.ticks(200), 1);
        state(19, "it lies", x, 1021, 425, 2167, 949, 54, 1, 0);
        x = new SelfSteer();
        x.push(10);
        due.is(19, "54 of 54", x.ticks(54), 54);
        due.is(20, "it lies", x.at(5), 1);
        x = new SelfSteer();
        x.push(10);
        due.is(19, "54 of 55", x.ticks(55), 54);
        due.is(19, "BAD is ahead of STATE", x.ticks(0), BAD);
        due.is(19, "BAD is ahead of STATE", x.ticks(201), BAD);
        due.is(19, "STATE", x.ticks(200), STATE);
    }

    private static void at0To6() {
        due.sentence("4 TICKS, 5 whether it lies, 6 the latest HAND. NO: BAD.");
        SelfSteer x = ride("lean 10;", 0, 0, 40, FLAT);
        due.is(20, "no HAND yet", x.at(6), 0);
        x.ticks(1);
        due.is(20, "A", x.at(0), 40);
        due.is(20, "HAND", x.at(6), 40);
        due.is(20, "what -1", x.at(-1), NO);
        due.is(20, "what 7", x.at(7), NO);
        x.push(3);
        due.is(20, "a PUSH is no HAND", x.at(6), 40);
    }

    private static void bears1To200() {
        due.sentence("the least PUSH (1 .. 1000), given ahead of the first TICK of a ride that begins, by which it FALLS within n TICKS (1 .. 200)");
        SelfSteer x = new SelfSteer();
        due.is(21, "0", x.bears(0), BAD);
        due.is(21, "201", x.bears(201), BAD);
        due.is(21, "-1", x.bears(-1), BAD);
        due.is(21, "within 1", x.bears(1), 989);
        due.is(21, "within 2", x.bears(2), 965);
        due.is(21, "within 200", x.bears(200), 4);
        // A PUSH of 4 makes it fall in TICK 68, neither earlier nor later.
        due.is(21, "within 68", x.bears(68), 4);
        due.is(21, "within 67", x.bears(67), 6);
        Due.make(x, 1, 9, 1, 4, 1, 5, 2);
        x.ride(1, 3, 0);
        due.is(21, "within 199", x.bears(199), 48);
        due.is(21, "the 200th counts, too", x.bears(200), 44);
        // HIGH is 1 at least, so 999 makes it fall at once: there is always one, and 1000 is never the least.
        Due.make(x, 2, FLAT);
        x.ride(2, 0, 0);
        due.is(21, "the greatest", x.bears(1), 999);
        Due.make(x, 2, 2, 9, 9, 9, 1, 0);
        Due.rider(x, "lean 99;");
        x.ride(2, 3, 0);
        due.is(21, "the least", x.bears(200), 1);
    }

    private static void theRideIsNotChanged() {
        due.sentence("BEARS of THE RIDE's BICYCLE, SPEED, bar with THE RIDER (THE RIDE is not changed); NONE. BAD.");
        SelfSteer x = ride("lean 10;late 5;", 6, 1, 100, 2, 3, 2, 5, 4, 3);
        SelfSteer twin = ride("lean 10;late 5;", 6, 1, 100, 2, 3, 2, 5, 4, 3);
        x.ticks(7);
        twin.ticks(7);
        x.bears(200);
        for (int n = 0; n < 6; n++) {
            for (int what = 0; what < 7; what++) due.is(21, "at(" + what + ") behind " + n, x.at(what), twin.at(what));
            x.ticks(1);
            twin.ticks(1);
        }
        x = new SelfSteer();
        x.push(1000);
        x.push(1000);
        due.is(21, "though it lies", x.bears(1), 989);
        state(21, "it lies as it lay", x, 2000, 0, 0, 0, 0, 1, 0);
        // The lean that THE RIDE has is no part of the PUSH.
        x = new SelfSteer();
        x.push(900);
        due.is(21, "though it leans", x.bears(1), 989);
    }

    public static void main(String[] args) {
        aRideAnew();
        ofABicycleAtASpeed();
        cutToward0();
        aheadOfTheFirstTick();
        noFartherThanMost();
        itsSignTurned();
        near100000();
        near10000();
        numbersAtTheTick();
        pushes();
        fallsBehindAPush();
        fallsBehindATick();
        noTicksAnyMore();
        ticks1To200();
        at0To6();
        bears1To200();
        theRideIsNotChanged();
        due.end();
    }
}
