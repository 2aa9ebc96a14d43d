/** The boundary cases that the document names of habits, kinds and images: one test for each sentence. */
public final class EdgesOfHabits {
    private static final int NO = SelfSteer.NO, BAD = SelfSteer.BAD, STATE = SelfSteer.STATE;
    private static final int PLAIN = 0, REVERSED = 1;
    private static final Due due = new Due("EdgesOfHabits");

    private static void habits(int promise, SelfSteer x, int plain, int reversed) {
        due.is(promise, "HABIT of PLAIN", x.habit(PLAIN, 0), plain);
        due.is(promise, "HABIT of REVERSED", x.habit(REVERSED, 0), reversed);
    }

    private static void habits0To100() {
        due.sentence("HABITS of PLAIN and REVERSED bars 0 .. 100 (100, 0 at first)");
        SelfSteer x = new SelfSteer();
        habits(1, x, 100, 0);
        due.is(22, "100 is not more", x.weeks(PLAIN, 1), 100);
        habits(22, x, 100, 0);
        // By 30: 30, 60, 90, then 100 and not 120; the other one by 40: 60, 20, then 0 and not -20.
        x.tune(0, 30);
        x.tune(1, 40);
        due.is(22, "3 WEEKS", x.weeks(REVERSED, 3), 90);
        habits(22, x, 0, 90);
        due.is(22, "1 more", x.weeks(REVERSED, 1), 100);
        habits(22, x, 0, 100);
        // Just up to the ends: by 50 to 100, by 50 to 0.
        x = new SelfSteer();
        x.tune(0, 50);
        x.tune(1, 50);
        x.weeks(REVERSED, 1);
        habits(22, x, 50, 50);
        x.weeks(REVERSED, 1);
        habits(22, x, 0, 100);
    }

    private static void up1To50() {
        due.sentence("its HABIT is UP (1 .. 50; 5 at first) more");
        SelfSteer x = new SelfSteer();
        due.is(22, "by 5 at first", x.weeks(REVERSED, 1), 5);
        due.is(23, "UP 0", x.tune(0, 0), BAD);
        due.is(23, "UP 51", x.tune(0, 51), BAD);
        due.is(23, "UP -1", x.tune(0, -1), BAD);
        due.is(22, "still by 5", x.weeks(REVERSED, 1), 10);
        due.is(23, "UP 1", x.tune(0, 1), 5);
        due.is(22, "by 1", x.weeks(REVERSED, 1), 11);
        due.is(23, "UP 50", x.tune(0, 50), 1);
        due.is(22, "by 50", x.weeks(REVERSED, 1), 61);
        due.is(23, "UP to what it is", x.tune(0, 50), 50);
    }

    private static void down0To50() {
        due.sentence("the other one's DOWN (0 .. 50; 3) less (0 .. 100)");
        SelfSteer x = new SelfSteer();
        x.weeks(REVERSED, 1);
        habits(22, x, 97, 5);
        due.is(23, "DOWN -1", x.tune(1, -1), BAD);
        due.is(23, "DOWN 51", x.tune(1, 51), BAD);
        x.weeks(REVERSED, 1);
        habits(22, x, 94, 10);
        due.is(23, "DOWN 0", x.tune(1, 0), 3);
        x.weeks(REVERSED, 1);
        habits(22, x, 94, 15);
        due.is(23, "DOWN 50", x.tune(1, 50), 0);
        x.weeks(REVERSED, 1);
        habits(22, x, 44, 20);
        x.weeks(REVERSED, 1);
        habits(22, x, 0, 25);
        x.weeks(REVERSED, 1);
        habits(22, x, 0, 30);
    }

    private static void upOrDown() {
        due.sentence("UP (what = 0), DOWN (1) becomes v: what it was. BAD.");
        SelfSteer x = new SelfSteer();
        due.is(23, "what -1", x.tune(-1, 5), BAD);
        due.is(23, "what 2", x.tune(2, 5), BAD);
        due.is(23, "UP", x.tune(0, 7), 5);
        due.is(23, "DOWN", x.tune(1, 8), 3);
        due.is(23, "UP again", x.tune(0, 7), 7);
        due.is(23, "DOWN again", x.tune(1, 8), 8);
    }

    private static void was100Once() {
        due.sentence("but if its HABIT was 100 once it is 100 at once");
        SelfSteer x = new SelfSteer();
        x.tune(0, 1);
        x.tune(1, 50);
        x.weeks(REVERSED, 2);
        habits(22, x, 0, 2);
        due.is(22, "PLAIN was 100 at first", x.weeks(PLAIN, 1), 100);
        habits(22, x, 100, 0);
        // REVERSED came to 99, never to 100: it must go all the way again.
        x = new SelfSteer();
        x.tune(0, 33);
        x.tune(1, 1);
        due.is(22, "99", x.weeks(REVERSED, 3), 99);
        due.is(22, "PLAIN", x.weeks(PLAIN, 1), 100);
        habits(22, x, 100, 98);
        x.tune(0, 1);
        due.is(22, "99 again", x.weeks(REVERSED, 1), 99);
        due.is(22, "100", x.weeks(REVERSED, 1), 100);
        // Now it was 100 once.
        x.tune(1, 50);
        x.weeks(PLAIN, 2);
        habits(22, x, 100, 0);
        due.is(22, "REVERSED at once", x.weeks(REVERSED, 1), 100);
        habits(22, x, 50, 100);
    }

    private static void weeks1To50() {
        due.sentence("n WEEKS (1 .. 50) of PLAIN (0), REVERSED (1): its HABIT. BAD.");
        SelfSteer x = new SelfSteer();
        due.is(22, "0 WEEKS", x.weeks(REVERSED, 0), BAD);
        due.is(22, "51 WEEKS", x.weeks(REVERSED, 51), BAD);
        due.is(22, "-1 WEEKS", x.weeks(REVERSED, -1), BAD);
        due.is(22, "bar -1", x.weeks(-1, 1), BAD);
        due.is(22, "bar 2", x.weeks(2, 1), BAD);
        habits(22, x, 100, 0);
        x.tune(0, 1);
        due.is(22, "1 WEEK", x.weeks(REVERSED, 1), 1);
        due.is(22, "50 WEEKS", x.weeks(REVERSED, 50), 51);
        habits(22, x, 0, 51);
    }

    private static void weeksTill100() {
        due.sentence("HABIT of one (what = 0), weeks of it alone till it is 100 (1). BAD.");
        SelfSteer x = new SelfSteer();
        due.is(24, "it is 100", x.habit(PLAIN, 1), 0);
        due.is(24, "from 0 by 5", x.habit(REVERSED, 1), 20);
        x.tune(0, 1);
        due.is(24, "from 0 by 1", x.habit(REVERSED, 1), 100);
        x.tune(0, 50);
        due.is(24, "from 0 by 50", x.habit(REVERSED, 1), 2);
        x.tune(0, 49);
        due.is(24, "from 0 by 49", x.habit(REVERSED, 1), 3);
        x.weeks(REVERSED, 2);
        due.is(24, "from 98 by 49", x.habit(REVERSED, 1), 1);
        due.is(24, "PLAIN was 100 once", x.habit(PLAIN, 1), 1);
        x.tune(0, 2);
        due.is(24, "from 98 by 2", x.habit(REVERSED, 1), 1);
        x.tune(0, 1);
        due.is(24, "from 98 by 1", x.habit(REVERSED, 1), 2);
        habits(24, x, 94, 98);
        due.is(24, "bar -1", x.habit(-1, 0), BAD);
        due.is(24, "bar 2", x.habit(2, 0), BAD);
        due.is(24, "what -1", x.habit(PLAIN, -1), BAD);
        due.is(24, "what 2", x.habit(PLAIN, 2), BAD);
    }

    private static void kinds0To6() {
        due.sentence("0 BICYCLE; 1 PLAIN, 2 UNSPUN, 3 UNTRAILED, 5 REVERSED, 6 LOADED (each under BICYCLE); 4 NEITHER (under UNTRAILED)");
        SelfSteer x = new SelfSteer();
        due.is(25, "KIND -1", x.score(-1, 0), NO);
        due.is(25, "KIND 7", x.score(7, 0), NO);
        due.is(25, "BICYCLE -1", x.score(0, -1), NO);
        due.is(25, "BICYCLE 4", x.score(0, 4), NO);
        due.is(29, "nothing was asked", x.trace(), 0);
        Due.make(x, 3, 7, 3, 2, 5, 4, 6);
        int[] want = {13, 16, 13, 2, 11, 13, 65};
        for (int kind = 0; kind <= 6; kind++) due.is(25, "KIND " + kind, x.score(kind, 3), want[kind]);
    }

    private static void scoresWithoutARange() {
        due.sentence("SCORE of a BICYCLE");
        SelfSteer x = new SelfSteer();
        int[] first = {0, 3, 0, 0, 2, 0, 0};
        for (int kind = 0; kind <= 6; kind++) due.is(25, "no RANGE, KIND " + kind, x.score(kind, 0), first[kind]);
        // None with TRAIL, 4 SPEEDS without: below 0.
        Due.make(x, 1, 5, -9, 1, 7, 5, 5);
        int[] below = {0, -9, 0, -4, -3, 0, 0};
        for (int kind = 0; kind <= 6; kind++) due.is(25, "below 0, KIND " + kind, x.score(kind, 1), below[kind]);
    }

    private static void withoutIsWith0() {
        due.sentence("UNSPUN up, less that of its RANGE without SPIN (100). UNTRAILED up, less that without TRAIL (1000).");
        SelfSteer x = new SelfSteer();
        // 36 SPEEDS, none without SPIN, though there are 26 with 1 of it.
        Due.make(x, 0, 7, 9, -5, 2, 9, 9);
        due.is(25, "UNSPUN", x.score(2, 0), 36);
        // 30 SPEEDS, 18 without TRAIL, 20 with 1 of it, 17 with -1.
        Due.make(x, 0, 7, 9, 4, 3, 4, 9);
        due.is(25, "UNTRAILED", x.score(3, 0), 12);
        due.is(25, "NEITHER", x.score(4, 0), 2 * 12 + 7);
    }

    private static void by10RoundedDown() {
        due.sentence("REVERSED up less HABIT of REVERSED by 10, rounded down (100000)");
        SelfSteer x = new SelfSteer();
        x.tune(0, 9);
        due.is(25, "HABIT 0", x.score(5, 0), 0);
        x.weeks(REVERSED, 1);
        due.is(25, "HABIT 9", x.score(5, 0), 0);
        x.tune(0, 1);
        x.weeks(REVERSED, 1);
        due.is(25, "HABIT 10", x.score(5, 0), -1);
        x.tune(0, 9);
        x.weeks(REVERSED, 1);
        due.is(25, "HABIT 19", x.score(5, 0), -1);
        x.tune(0, 40);
        x.weeks(REVERSED, 2);
        due.is(25, "HABIT 99", x.score(5, 0), -9);
        x.weeks(REVERSED, 1);
        due.is(25, "HABIT 100", x.score(5, 0), -10);
    }

    private static void theTraceOfEach() {
        due.sentence("numbers in brackets are added to THE TRACE, 0 at first, as often as score() asks that body");
        long[] added = {1, 11, 101, 1001, 11001, 100001, 1000001};
        for (int kind = 0; kind <= 6; kind++) {
            SelfSteer x = new SelfSteer();
            due.is(29, "at first", x.trace(), 0);
            x.score(kind, 0);
            due.is(29, "KIND " + kind + " once", x.trace(), added[kind]);
            x.score(kind, 3);
            due.is(29, "KIND " + kind + " twice", x.trace(), 2 * added[kind]);
            due.is(29, "trace() adds nothing", x.trace(), 2 * added[kind]);
        }
        // Only score() asks: what is reckoned for other calls leaves no trace.
        SelfSteer x = new SelfSteer();
        x.range(0);
        x.count(2);
        x.without(0, 1);
        due.is(29, "no score", x.trace(), 0);
    }

    private static void images0And1() {
        due.sentence("An IMAGE is kept: TICKS. BAD.");
        SelfSteer x = new SelfSteer();
        due.is(26, "IMAGE -1", x.keep(-1), BAD);
        due.is(26, "IMAGE 2", x.keep(2), BAD);
        due.is(26, "no TICKS", x.keep(0), 0);
        x.ticks(200);
        due.is(26, "200 TICKS", x.keep(1), 200);
        x.ticks(1);
        due.is(26, "an IMAGE is kept over another", x.keep(0), 201);
        x.ride(0, 0, 0);
        due.is(27, "the later one", x.back(0), 201);
        due.is(27, "the other one", x.back(1), 200);
        due.is(20, "TICKS", x.at(4), 200);
    }

    private static void noneWasKept() {
        due.sentence("All of that becomes as an IMAGE has it: TICKS. BAD; STATE: none was kept.");
        SelfSteer x = new SelfSteer();
        due.is(27, "IMAGE -1", x.back(-1), BAD);
        due.is(27, "IMAGE 2", x.back(2), BAD);
        due.is(27, "none in 0", x.back(0), STATE);
        due.is(27, "none in 1", x.back(1), STATE);
        x.ticks(5);
        x.weeks(REVERSED, 1);
        due.is(27, "STATE again", x.back(0), STATE);
        due.is(27, "TICKS are as they were", x.at(4), 5);
        habits(27, x, 97, 5);
        x.keep(1);
        due.is(27, "none in 0 still", x.back(0), STATE);
        x.keep(0);
        due.is(27, "one in 0", x.back(0), 5);
    }

    private static void rideAndHabitsAlone() {
        due.sentence("IMAGES 0, 1 keep THE RIDE and HABITS; nothing else.");
        SelfSteer x = new SelfSteer();
        Due.rider(x, "lean 10;late 5;");
        x.ride(3, 6, 1);
        x.push(100);
        x.ticks(4);
        x.keep(0);
        x.ride(0, 0, 0);
        x.push(1000);
        x.push(1000);
        x.number(3, 0, 9);
        x.tune(0, 50);
        x.tune(1, 50);
        x.weeks(REVERSED, 2);
        x.score(0, 0);
        Due.rider(x, "lean 20;late 5;most 900;");
        Due.type(x, "bar");
        due.is(27, "back", x.back(0), 4);
        due.is(20, "it does not lie", x.at(5), 0);
        habits(27, x, 100, 0);
        due.is(24, "REVERSED was not 100 then; UP is 50", x.habit(REVERSED, 1), 2);
        due.is(23, "UP", x.tune(0, 5), 50);
        due.is(23, "DOWN", x.tune(1, 3), 50);
        due.is(3, "NUMBERS", x.has(3, 0), 9);
        due.is(28, "ITEMS", x.count(0), 3);
        due.is(28, "bytes", x.count(1), 3);
        due.is(29, "THE TRACE", x.trace(), 1);
        // What it was as the first TICK began was kept, and that the bar is REVERSED.
        x.ticks(1);
        due.is(20, "TICK 5", x.at(6), 0);
        x.ticks(1);
        due.is(20, "TICK 6", x.at(6), -200);
    }

    /** THE RIDE of BICYCLE 3 that an IMAGE is to keep; all of it is other than at first. */
    private static SelfSteer underWay() {
        SelfSteer x = new SelfSteer();
        Due.rider(x, "lean 10;rate 20;bar 30;late 3;");
        Due.make(x, 3, 7, 3, 2, 5, 4, 6);
        x.weeks(REVERSED, 2);
        x.ride(3, 6, 1);
        x.push(100);
        x.ticks(7);
        return x;
    }

    private static void allOfTheRide(int image) {
        due.sentence("All of that becomes as an IMAGE has it: TICKS. BAD; STATE: none was kept.");
        SelfSteer x = underWay(), twin = underWay();
        due.is(26, "kept", x.keep(image), 7);
        x.ride(0, 5, 0);
        x.push(-50);
        due.is(19, "other TICKS", x.ticks(9), 9);
        x.weeks(REVERSED, 30);
        due.is(27, "back", x.back(image), 7);
        habits(27, x, 94, 10);
        // Its BICYCLE, SPEED, bar and past show in the TICKS that follow.
        for (int n = 0; n < 5; n++) {
            for (int what = 0; what < 7; what++) due.is(27, "at(" + what + ") " + n + " TICKS on", x.at(what), twin.at(what));
            x.ticks(1);
            twin.ticks(1);
        }
        due.is(27, "REVERSED was not 100 once", x.weeks(REVERSED, 1), 15);
        due.is(27, "the IMAGE is as it was", x.back(image), 7);
        habits(27, x, 94, 10);
    }

    private static void aRideThatLies() {
        due.sentence("All of that becomes as an IMAGE has it: TICKS.");
        SelfSteer x = new SelfSteer();
        x.push(1000);
        x.push(1);
        due.is(26, "what lies is kept", x.keep(1), 0);
        x.ride(2, 3, 0);
        x.ticks(3);
        due.is(27, "back", x.back(1), 0);
        due.is(20, "it lies", x.at(5), 1);
        due.is(19, "no TICKS any more", x.ticks(1), STATE);
        due.is(18, "no PUSH", x.push(1), NO);
    }

    private static void counts0To2() {
        due.sentence("0 ITEMS of THE RIDER, 1 bytes of THE TEXT, 2 SPEEDS of all RANGES together. BAD.");
        SelfSteer x = new SelfSteer();
        for (int what = 0; what <= 2; what++) due.is(28, "count(" + what + ") at first", x.count(what), 0);
        due.is(28, "what -1", x.count(-1), BAD);
        due.is(28, "what 3", x.count(3), BAD);
        for (int i = 0; i < 4; i++) Due.make(x, i, 8, 2, 2, 1, 9, 6);
        due.is(28, "the most SPEEDS", x.count(2), 4 * 38);
        Due.rider(x, "lean 0;rate 0;bar 0;late 0;most 999;");
        due.is(28, "the most ITEMS", x.count(0), 5);
        Due.type(x, " ".repeat(200));
        due.is(28, "the most bytes", x.count(1), 200);
    }

    public static void main(String[] args) {
        habits0To100();
        up1To50();
        down0To50();
        upOrDown();
        was100Once();
        weeks1To50();
        weeksTill100();
        kinds0To6();
        scoresWithoutARange();
        withoutIsWith0();
        by10RoundedDown();
        theTraceOfEach();
        images0And1();
        noneWasKept();
        rideAndHabitsAlone();
        allOfTheRide(0);
        allOfTheRide(1);
        aRideThatLies();
        counts0To2();
        due.end();
    }
}
