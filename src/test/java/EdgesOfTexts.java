/** The boundary cases that the document names of THE TEXT and THE RIDER: one test for each sentence. */
public final class EdgesOfTexts {
    private static final String[] WORDS = {"lean", "rate", "bar", "late", "most"};
    private static final Due due = new Due("EdgesOfTexts");

    /** HAND of a RIDER who leans by N at a lean of 10. */
    private static int handAtALean(SelfSteer x, int lean) {
        x.ride(0, 0, 0);
        x.push(lean);
        x.ticks(1);
        return x.at(6);
    }

    /** HAND in the second TICK behind a PUSH: at SPEED 0 P is then a quarter of it, B an 80th. */
    private static int handInTheSecond(SelfSteer x, int lean) {
        handAtALean(x, lean);
        x.ticks(1);
        return x.at(6);
    }

    private static SelfSteer told(String law) {
        SelfSteer x = new SelfSteer();
        Due.rider(x, law);
        return x;
    }

    private static void fault(String text, int place) {
        SelfSteer x = told("lean 1;rate 2;");
        Due.type(x, text);
        due.is(16, "'" + text + "'", x.rider(), -10 - place);
        due.is(16, "THE TEXT is as it was", x.count(1), text.length());
        due.is(16, "THE RIDER is as it was", x.count(0), 2);
        due.is(16, "his law is as it was", handAtALean(x, 30), 3);
    }

    private static void fine(String text, int items) {
        SelfSteer x = told("lean 1;rate 2;");
        Due.type(x, text);
        due.is(16, "'" + text + "'", x.rider(), items);
        due.is(16, "THE TEXT is empty then", x.count(1), 0);
        due.is(28, "ITEMS", x.count(0), items);
    }

    private static void lowestBytes() {
        due.sentence("The lowest n (1 .. 8) bytes of v, the highest of them first, come to THE TEXT: how many it has.");
        SelfSteer x = new SelfSteer();
        due.is(14, "n 0", x.type(0x6c65616e20373b20L, 0), SelfSteer.BAD);
        due.is(14, "n 9", x.type(0x6c65616e20373b20L, 9), SelfSteer.BAD);
        due.is(14, "n -1", x.type(0x6c65616e20373b20L, -1), SelfSteer.BAD);
        due.is(14, "nothing came", x.count(1), 0);
        due.is(14, "n 8", x.type(0x6c65616e20373b20L, 8), 8);
        due.is(16, "'lean 7; '", x.rider(), 1);
        due.is(16, "lean is 7", handAtALean(x, 10), 7);
        due.is(14, "n 7 of 8", x.type(0x596c65616e20363bL, 7), 7);
        due.is(16, "'lean 6;'", x.rider(), 1);
        due.is(16, "lean is 6", handAtALean(x, 10), 6);
        due.is(14, "n 1 of 8", x.type(0xffffffffffffff20L, 1), 1);
        due.is(16, "' '", x.rider(), 0);
        // Bytes above 127, 0 and those of a v below 0 are bytes as well.
        due.is(14, "-1", x.type(-1L, 8), 8);
        due.is(16, "the first byte is 255", x.rider(), -10);
        x.clear();
        due.is(14, "bytes 128, 32", x.type(0x8020L, 2), 2);
        due.is(16, "the first byte is 128", x.rider(), -10);
        x.clear();
        due.is(14, "bytes 32, 0", x.type(0x2000L, 2), 2);
        due.is(16, "the second byte is 0", x.rider(), -11);
        x.clear();
        // A byte that has the sign of one in its lowest seven bits alone is not that sign.
        due.is(14, "a ; with 128", x.type(0x62617220b5bbL, 6), 6);
        due.is(16, "'bar ' and 181", x.rider(), -14);
    }

    private static void fullText() {
        due.sentence("A RIDER is told by a text (200 bytes at most)");
        for (int n = 1; n <= 8; n++) {
            SelfSteer x = new SelfSteer();
            Due.type(x, " ".repeat(200 - n));
            due.is(14, (n + 1) + " do not fit behind " + (200 - n), x.type(0x2020202020202020L, n + 1), n == 8 ? SelfSteer.BAD : SelfSteer.FULL);
            due.is(14, "none of them came", x.count(1), 200 - n);
            due.is(14, n + " fit", x.type(0x2020202020202020L, n), 200);
            due.is(14, "no more", x.type(32, 1), SelfSteer.FULL);
            due.is(14, "no eight more", x.type(32, 8), SelfSteer.FULL);
            due.is(28, "bytes", x.count(1), 200);
            due.is(16, "200 blanks", x.rider(), 0);
            due.is(14, "then there is room", x.type(32, 8), 8);
        }
        fine(" ".repeat(193) + "lean 5;", 1);
        fine("lean 5;" + " ".repeat(193), 1);
        fine("lean" + " ".repeat(194) + "5;", 1);
        fault("lean" + " ".repeat(195) + "5", 200);
        fault(" ".repeat(199) + "l", 199);
        fault("a".repeat(200), 0);
        fault("lean " + "9".repeat(195), 5);
    }

    private static void emptyText() {
        due.sentence("THE TEXT is empty: how many bytes it had.");
        SelfSteer x = new SelfSteer();
        due.is(15, "an empty one", x.clear(), 0);
        Due.type(x, " ".repeat(200));
        due.is(15, "a full one", x.clear(), 200);
        due.is(15, "and again", x.clear(), 0);
        due.is(28, "bytes", x.count(1), 0);
        due.is(14, "it begins anew", x.type(0x626172L, 3), 3);
        due.is(16, "nothing behind its end is read", x.rider(), -13);
    }

    private static void anEmptyLaw() {
        due.sentence("THE TEXT becomes THE RIDER, and is empty then: how many ITEMS. -10 less FAULT: nothing changes.");
        fine("", 0);
        fine("   ", 0);
        SelfSteer x = told("lean 9;");
        due.is(16, "an empty text", x.rider(), 0);
        due.is(16, "it is a RIDER who does nothing", handAtALean(x, 100), 0);
        // What an earlier RIDER was told does not go on.
        x = told("lean 9;late 5;most 1;");
        due.is(16, "a new one", Due.rider(x, "lean 7;"), 1);
        due.is(16, "late 0 and most 999 again", handAtALean(x, 100), 70);
        fault("?", 0);
        fault(" ".repeat(199) + ";", 199);
    }

    private static void blanksAlone() {
        due.sentence("read byte by byte, blanks (32) between TOKENS");
        fine("lean5;", 1);
        fine("  lean  -  5  ;  rate  6  ;  ", 2);
        for (int sign : new int[] {0, 9, 10, 13, 31, 33, 127, 128, 160, 255}) {
            fault((char) sign + "lean 5;", 0);
            fault("lean" + (char) sign + "5;", 4);
            fault("lean 5;" + (char) sign, 7);
        }
    }

    private static void onceAtMost() {
        due.sentence("ITEMS, each once at most");
        fine("most 1;late 2;bar 3;rate 4;lean 5;", 5);
        for (String word : WORDS) {
            fine(word + " 1;", 1);
            fault(word + " 1;" + word + " 2;", word.length() + 3);
            fault("lean 1;rate 1;bar 1;late 1;most 1;" + word + " 1;", 34);
        }
    }

    private static void endedBy() {
        due.sentence("each ended by ;");
        fault("lean 1", 6);
        fault("lean 1 rate 2;", 7);
        fault("lean 1;;", 7);
        fault("lean 1-;", 6);
        fault("lean 1 2;", 7);
        fault(";", 0);
        fault("; lean 1;", 0);
    }

    private static void between99s() {
        due.sentence("lean N, rate N, bar N (-99 .. 99; 0 at first)");
        due.is(16, "lean 99", handAtALean(told("lean 99;"), 10), 99);
        due.is(16, "lean -99", handAtALean(told("lean -99;"), 10), -99);
        due.is(16, "lean 0", handAtALean(told("lean 0;"), 10), 0);
        due.is(16, "lean -0", handAtALean(told("lean -0;"), 10), 0);
        due.is(16, "lean at first", handAtALean(told("most 999;"), 10), 0);
        // P is 10 and B is 0 as the second TICK begins.
        due.is(16, "rate 99", handInTheSecond(told("rate 99;"), 40), 99);
        due.is(16, "rate -99", handInTheSecond(told("rate -99;"), 40), -99);
        due.is(16, "rate at first", handInTheSecond(told("bar 99;"), 40), 0);
        // B is 10 as it begins.
        due.is(16, "bar 99", handInTheSecond(told("bar 99;"), 800), 99);
        due.is(16, "bar -99", handInTheSecond(told("bar -99;"), 800), -99);
        due.is(16, "bar at first", handInTheSecond(told(""), 800), 0);
        for (String word : new String[] {"lean", "rate", "bar"}) {
            int behind = word.length() + 1;
            fine(word + " 99;", 1);
            fine(word + " -99;", 1);
            fault(word + " 100;", behind);
            fault(word + " -100;", behind + 1);
            fault(word + " - 100;", behind + 2);
            fault(word + " 999;", behind);
            fault(word + " --9;", behind + 1);
        }
    }

    private static void lateUpTo5() {
        due.sentence("late D (0 .. 5; 0)");
        fine("late 0;", 1);
        fine("late 5;", 1);
        fault("late 6;", 5);
        fault("late -1;", 5);
        fault("late 55;", 5);
        due.is(16, "late 0", handAtALean(told("lean 10;late 0;"), 10), 10);
        due.is(16, "late 1", handAtALean(told("lean 10;late 1;"), 10), 0);
        due.is(16, "late at first", handAtALean(told("lean 10;"), 10), 10);
    }

    private static void mostUpTo999() {
        due.sentence("most M (0 .. 999; 999)");
        fine("most 0;", 1);
        fine("most 999;", 1);
        fault("most 1000;", 5);
        fault("most -1;", 5);
        due.is(16, "most 0", handAtALean(told("lean 99;most 0;"), 900), 0);
        due.is(16, "most 1", handAtALean(told("lean 99;most 1;"), 900), 1);
        due.is(16, "most 999", handAtALean(told("lean 99;most 999;"), 900), 999);
        due.is(16, "most at first", handAtALean(told("lean 99;"), 900), 999);
    }

    private static void lettersAToZ() {
        due.sentence("TOKENS are words of letters a .. z (lean, rate, bar, late, most), - , NUMBERS and ; .");
        fault("`", 0);
        fault("{", 0);
        fault("lean`1;", 4);
        fault("lean{1;", 4);
        fault("lean/1;", 4);
        fault("lean:1;", 4);
        fault("lean,1;", 4);
        fault("lean.1;", 4);
        fault("lean<1;", 4);
        fault("Lean 1;", 0);
        fault("leaN 1;", 0);
        fault("LEAN 1;", 0);
        fault("lean +1;", 5);
        fine("rate 10;", 1);
        fine("rate 90;", 1);
    }

    private static void theFirstThatCannotStand() {
        due.sentence("the place of the first byte of the first TOKEN that can't stand there (an ITEM that was told, a NUMBER beyond what it may be, too)");
        fault("5;", 0);
        fault("-5;", 0);
        fault("lean ;", 5);
        fault("lean rate 5;", 5);
        fault("lean lean 5;", 5);
        fault("lean - ;", 7);
        fault("lean - lean;", 7);
        fault("lean 5 lean 6;", 7);
        // Of two, the first counts, whatever is wrong with each.
        fault("lean 100; rate ?", 5);
        fault("lean 1; lean 1000; ?", 8);
        fault("late 6; late 7; xyz", 5);
        fault("most 999 ; most 5;", 11);
    }

    private static void aByteThatBeginsNone() {
        due.sentence("of a byte that begins none, a word that is none, a NUMBER above 999 or with a 0 ahead of others, that TOKEN's");
        fault("lean 5; ?", 8);
        fault("lean 5?;", 6);
        fault("lean ?;", 5);
        for (String word : WORDS) {
            fault(word.substring(1) + " 1;", 0);
            fault(word.substring(0, word.length() - 1) + " 1;", 0);
            fault("  " + word + "s 1;", 2);
            fault("x" + word + " 1;", 0);
            fault(word + word + " 1;", 0);
        }
        fault("lean 5; leanrate 5;", 8);
        fault("lean x;", 5);
        fault("lean 5 x;", 7);
        fault("lean 5x;", 6);
        fault("lean 1000;", 5);
        fault("most 1000;", 5);
        fault("most 10000;", 5);
        fault("most 4294967297;", 5);
        fault("most 18446744073709551617;", 5);
        fault("lean 00;", 5);
        fault("lean 01;", 5);
        fault("lean -01;", 6);
        fault("late 05;", 5);
        fault("most 0999;", 5);
        fault("lean 5; 1000", 8);
        fine("lean 0;", 1);
        fine("most 100;", 1);
    }

    private static void endsTooEarly() {
        due.sentence("the text's length, if it ends too early");
        fault("lean", 4);
        fault("lean ", 5);
        fault("lean -", 6);
        fault("lean -5", 7);
        fault("lean -5 ", 8);
        fault("lean 5;rate", 11);
        fault("lean 5;rate 5   ", 16);
        // A word that ends too early is none, and so its own place counts.
        fault("lea", 0);
        fault("lean 5;rat", 7);
    }

    public static void main(String[] args) {
        lowestBytes();
        fullText();
        emptyText();
        anEmptyLaw();
        blanksAlone();
        onceAtMost();
        endedBy();
        between99s();
        lateUpTo5();
        mostUpTo999();
        lettersAToZ();
        theFirstThatCannotStand();
        aByteThatBeginsNone();
        endsTooEarly();
        due.end();
    }
}
