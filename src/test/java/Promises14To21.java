/** Riders and rides: type, clear, rider, ride, push, ticks, at, bears. */
public final class Promises14To21 {
    private static final int FAR = Integer.MIN_VALUE, HUGE = Integer.MAX_VALUE, NO = SelfSteer.NO;
    private static final Due due = new Due("Promises14To21");

    private static void texts() {
        SelfSteer x = new SelfSteer();
        due.is(14, "the lowest byte alone", x.type(0x7777777777777720L, 1), 1);
        due.is(16, "a blank is no ITEM", x.rider(), 0);
        due.is(14, "highest first", x.type(0x6261722037373bL, 7), 7);
        due.is(16, "bar 77;", x.rider(), 1);
        for (int w : new int[] {0, -1, 9, FAR, HUGE}) due.is(14, "no n " + w, x.type(32, w), -1);
        due.is(14, "nothing came", x.count(1), 0);
        for (int n = 1; n <= 25; n++) due.is(14, "eight more", x.type(0x2020202020202020L, 8), 8 * n);
        due.is(14, "full", x.type(32, 1), SelfSteer.FULL);
        due.is(14, "BAD is ahead of FULL", x.type(32, 9), -1);
        due.is(15, "clear", x.clear(), 200);
        due.is(15, "clear again", x.clear(), 0);
        for (int n = 1; n <= 24; n++) x.type(0x2020202020202020L, 8);
        x.type(0x2020202020L, 5);
        due.is(14, "4 do not fit behind 197", x.type(0x20202020L, 4), SelfSteer.FULL);
        due.is(14, "and nothing came", x.count(1), 197);
        due.is(14, "3 do", x.type(0x202020L, 3), 200);
        due.is(16, "200 blanks", x.rider(), 0);
        due.is(16, "THE TEXT is empty then", x.count(1), 0);
        Due.type(x, "bar 5;");
        due.is(15, "clear leaves THE RIDER", x.clear() * 10 + x.count(0), 60);
    }

    private static void rightLaws() {
        SelfSteer x = new SelfSteer();
        due.is(16, "nothing", x.rider(), 0);
        due.is(16, "all five", Due.rider(x, "lean 40;rate -20;bar 7;late 5;most 999;"), 5);
        due.is(16, "count(0)", x.count(0), 5);
        due.is(16, "blanks anywhere", Due.rider(x, "  lean   -  99  ;  most 0 ; "), 2);
        due.is(16, "no blanks", Due.rider(x, "late0;bar-99;rate99;"), 3);
        due.is(16, "a minus 0", Due.rider(x, "lean -0;"), 1);
        due.is(16, "nothing again", Due.rider(x, ""), 0);
        due.is(16, "count(0) then", x.count(0), 0);
    }

    private static void fault(SelfSteer x, String text, int place) {
        due.is(16, "'" + text + "'", Due.rider(x, text), -10 - place);
        due.is(16, "THE TEXT stays", x.count(1), text.length());
        due.is(16, "THE RIDER stays", x.count(0), 2);
    }

    private static void faults() {
        SelfSteer x = new SelfSteer();
        Due.rider(x, "lean 1;rate 2;");
        fault(x, "lean 100;", 5);
        fault(x, "lean -100;", 6);
        fault(x, "rate 1;bar 100;", 11);
        fault(x, "rate 100;", 5);
        fault(x, "late 6;", 5);
        fault(x, "late -1;", 5);
        fault(x, "most -0;", 5);
        fault(x, "most 1000;", 5);
        fault(x, "most 99999999999999999999;", 5);
        fault(x, "lean 05;", 5);
        fault(x, "lean 00;", 5);
        fault(x, "lean - ;", 7);
        fault(x, "lean --1;", 6);
        fault(x, "lean ;", 5);
        fault(x, "lean rate 1;", 5);
        fault(x, "lean 1 2;", 7);
        fault(x, "lean 1rate 2;", 6);
        fault(x, "lean 1; lean 2;", 8);
        fault(x, "lean 1;rate 1;bar 1;late 1;most 1;bar 2;", 34);
        fault(x, "leans 1;", 0);
        fault(x, "lea 1;", 0);
        fault(x, "le an 1;", 0);
        fault(x, "leanlean 1;", 0);
        fault(x, " bars 1;", 1);
        fault(x, "ba 1;", 0);
        fault(x, "Lean 1;", 0);
        fault(x, ";", 0);
        fault(x, "5;", 0);
        fault(x, "-5;", 0);
        fault(x, "lean 1;;", 7);
        fault(x, "lean 1;?", 7);
        fault(x, "lean 1\u00ff;", 6);
        fault(x, "lean\t1;", 4);
        fault(x, "lean 1\u0000", 6);
        fault(x, "lean {1;", 5);
        fault(x, "lean `1;", 5);
        fault(x, "lean /1;", 5);
        fault(x, "lean :1;", 5);
        fault(x, "bar 5", 5);
        fault(x, "bar 5  ", 7);
        fault(x, "bar -", 5);
        fault(x, "bar", 3);
        fault(x, "bar 5;late", 10);
        // What THE TEXT had before is not read on behind its end, nor anything behind all that it may have.
        fault(x, "lean 11111", 5);
        fault(x, "lean 1", 6);
        fault(x, "leanlean", 0);
        fault(x, "lean", 4);
        fault(x, "lean" + " ".repeat(195) + "1", 200);
        fault(x, " ".repeat(196) + "late", 200);
        fault(x, " ".repeat(199) + "-", 199);
    }

    private static void state(int promise, SelfSteer x, int... want) {
        for (int what = 0; what < want.length; what++) due.is(promise, "at(" + what + ")", x.at(what), want[what]);
    }

    private static void begun() {
        SelfSteer x = new SelfSteer();
        due.is(17, "ride", x.ride(0, 6, 0), 0);
        x.push(100);
        due.is(19, "one TICK", x.ticks(1), 1);
        state(20, x, 101, 1, 25, 25, 1, 0, 0);
        due.is(19, "one more", x.ticks(1), 1);
        state(20, x, 103, 3, 48, 47, 2, 0, 0);
        due.is(19, "ten", x.ticks(10), 10);
        state(20, x, 164, 70, 162, 203, 12, 0, 0);
        due.is(19, "thirty", x.ticks(30), 30);
        state(20, x, -621, -9, -1765, -940, 42, 0, 0);
        for (int w : new int[] {-1, 4, FAR, HUGE}) due.is(17, "no BICYCLE " + w, x.ride(w, 0, 0), -1);
        for (int w : new int[] {-1, 41, FAR, HUGE}) due.is(17, "no SPEED " + w, x.ride(0, w, 0), -1);
        for (int w : new int[] {-1, 2, FAR, HUGE}) due.is(17, "no bar " + w, x.ride(0, 0, w), -1);
        for (int w : new int[] {0, 201, FAR, HUGE}) due.is(19, "no TICKS " + w, x.ticks(w), -1);
        for (int w : new int[] {-1, 7, FAR, HUGE}) due.is(20, "no what " + w, x.at(w), NO);
        state(20, x, -621, -9, -1765, -940, 42, 0, 0);
        due.is(17, "a ride anew", x.ride(3, 40, 1), 42);
        state(17, x, 0, 0, 0, 0, 0, 0, 0);
        // Below 0 the cuts are toward 0, too.
        x.ride(0, 6, 0);
        x.push(-100);
        x.ticks(12);
        state(20, x, -164, -70, -162, -203, 12, 0, 0);
    }

    private static void hands() {
        SelfSteer x = new SelfSteer();
        Due.rider(x, "lean -30;rate 15;bar -7;late 2;most 60;");
        x.ride(0, 6, 0);
        x.push(100);
        x.ticks(2);
        state(20, x, 103, 3, 48, 47, 2, 0, 0);
        x.ticks(1);
        state(20, x, 106, 6, 69, 65, 3, 0, -60);
        x.ticks(11);
        state(20, x, 181, 85, 173, 213, 14, 0, -60);
        x.ride(0, 6, 1);
        x.push(100);
        x.ticks(14);
        state(20, x, 175, 96, 138, 235, 14, 0, 60);
        // A ride that goes on with another RIDER, who looks at TICKS ahead of his time.
        Due.rider(x, "bar 10;");
        x.ride(0, 6, 0);
        x.push(100);
        x.ticks(2);
        due.is(20, "HAND by the bar", x.at(6), 1);
        Due.rider(x, "lean 10;late 3;");
        x.push(7);
        x.ticks(1);
        due.is(20, "ahead of the first TICK", x.at(6), 0);
        x.ticks(1);
        due.is(20, "the first TICK began at 100", x.at(6), 100);
        x.ticks(1);
        due.is(20, "the second at 101", x.at(6), 101);
        x.ticks(1);
        due.is(20, "the third at 103 and 7", x.at(6), 110);
        due.is(17, "TICKS that it had", x.ride(1, 0, 0), 6);
        due.is(17, "no HAND yet", x.at(6), 0);
        // NUMBERS as they are at the TICK.
        x.ride(1, 0, 0);
        x.push(100);
        x.ticks(1);
        due.is(20, "P by HIGH 5", x.at(2), 25);
        x.number(1, 3, 9);
        x.ticks(1);
        due.is(20, "P by HIGH 9", x.at(2), 25 + 9 * 101 / 20);
    }

    private static void ends() {
        SelfSteer x = new SelfSteer();
        due.is(18, "push 0", x.push(0), 0);
        due.is(18, "push -1000", x.push(-1000), -1000);
        due.is(20, "it does not lie at -1000", x.at(5), 0);
        due.is(18, "push 1000 back", x.push(1000), 0);
        due.is(18, "push 1000", x.push(1000), 1000);
        due.is(20, "it does not lie at 1000", x.at(5), 0);
        for (int w : new int[] {-1001, 1001, FAR, HUGE}) due.is(18, "no PUSH " + w, x.push(w), NO);
        due.is(18, "push 1", x.push(1), 1001);
        state(18, x, 1001, 0, 0, 0, 0, 1, 0);
        due.is(18, "it lies", x.push(-500), NO);
        due.is(19, "it lies", x.ticks(1), SelfSteer.STATE);
        due.is(19, "BAD is ahead of STATE", x.ticks(0), -1);
        due.is(17, "a ride anew", x.ride(0, 0, 0), 0);
        x.push(1000);
        due.is(19, "it falls at the first", x.ticks(200), 1);
        state(19, x, 1012, 12, 250, 250, 1, 1, 0);
        // P no farther than 100000; and it falls far.
        Due.make(x, 1, 9, -1, 0, 2, 1, 7);
        x.ride(1, 40, 0);
        x.push(496);
        due.is(19, "it falls within", x.ticks(200), 7);
        state(19, x, 5186, -1501, 100000, -12195, 7, 1, 0);
        Due.make(x, 1, 9, -4, -8, 6, 1, 3);
        x.ride(1, 37, 0);
        x.push(240);
        due.is(19, "it falls within", x.ticks(6), 6);
        state(19, x, -5453, 1404, -100000, 7161, 6, 1, 0);
        // Q no farther than 100000, B no farther than 10000.
        Due.make(x, 1, 2, 9, 9, 1, 4, 0);
        Due.rider(x, "bar 99;");
        x.ride(1, 0, 0);
        x.push(19);
        for (int n = 0; n < 8; n++) due.is(19, "200", x.ticks(200), 200);
        state(19, x, 19, 10000, 0, 100000, 1600, 0, 999);
        x.ride(1, 0, 0);
        x.push(-19);
        for (int n = 0; n < 8; n++) x.ticks(200);
        state(19, x, -19, -10000, 0, -100000, 1600, 0, -999);
    }

    private static void bearing() {
        SelfSteer x = new SelfSteer();
        due.is(21, "at rest, at once", x.bears(1), 989);
        x.ride(0, 3, 0);
        x.push(70);
        x.ticks(4);
        int lean = x.at(0), change = x.at(2);
        due.is(21, "within 100", x.bears(100), 5);
        due.is(21, "THE RIDE as before", x.at(0) * 1000L + x.at(2), lean * 1000L + change);
        due.is(21, "TICKS as before", x.at(4), 4);
        Due.make(x, 1, 7, 3, 2, 5, 4, 6);
        x.ride(1, 12, 0);
        due.is(21, "within 200", x.bears(200), 42);
        due.is(21, "within 1", x.bears(1), 989);
        x.ride(1, 6, 0);
        due.is(21, "slower", x.bears(200), 779);
        Due.rider(x, "lean -30;rate 15;bar -7;late 2;most 60;");
        x.ride(0, 6, 0);
        due.is(21, "with a RIDER", x.bears(50), 85);
        x.ride(0, 6, 1);
        due.is(21, "with a bar REVERSED", x.bears(50), 62);
        x.push(1000);
        x.push(1000);
        due.is(21, "though it lies", x.bears(50), 62);
        Due.make(x, 2, 2, 9, 9, 9, 1, 0);
        Due.rider(x, "lean 99;");
        x.ride(2, 3, 0);
        due.is(21, "the least PUSH of all", x.bears(200), 1);
        for (int w : new int[] {0, -1, 201, FAR, HUGE}) due.is(21, "no n " + w, x.bears(w), -1);
    }

    public static void main(String[] args) {
        texts();
        rightLaws();
        faults();
        begun();
        hands();
        ends();
        bearing();
        due.end();
    }
}
