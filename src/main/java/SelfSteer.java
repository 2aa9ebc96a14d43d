/**
 * Why a bicycle does not fall: bicycles by six numbers, the speeds at which they stay up alone,
 * the reasons for it, riders, rides in ticks, habits and kinds.
 *
 * All rows are made once, with the object: no call makes anything, so that any run of calls
 * keeps the room that its constructor took.
 */
public final class SelfSteer {
    public static final int BAD = -1, STATE = -2, FULL = -3, NONE = -9;
    public static final int NO = -1000000;

    private static final int BICYCLES = 4;
    private static final int NUMBERS = 6;
    private static final int SPIN = 0, TRAIL = 1, FRONT = 2, HIGH = 3, LONG = 4, DAMP = 5;
    private static final int[] LOWEST = {-9, -9, -9, 1, 1, 0};
    private static final int[] HIGHEST = {9, 9, 9, 9, 9, 9};
    private static final int[] AT_FIRST = {2, 3, 2, 5, 4, 3};

    private static final int FASTEST = 40;
    private static final int MOST_HAND = 99;
    private static final int MOST_PUSH = 1000;
    private static final int MOST_TICKS = 200;
    private static final int MOST_BYTES = 200;
    private static final int IMAGES = 2;

    private static final int PLAIN_BAR = 0, REVERSED_BAR = 1;
    private static final int MOST_WEEKS = 50;
    private static final int MOST_TUNE = 50;

    private static final int BICYCLE = 0, PLAIN = 1, UNSPUN = 2, UNTRAILED = 3;
    private static final int NEITHER = 4, REVERSED = 5, LOADED = 6;
    private static final int[] KIND_ABOVE = {-1, BICYCLE, BICYCLE, BICYCLE, UNTRAILED, BICYCLE, BICYCLE};
    private static final int[] TRACE_OF_KIND = {1, 10, 100, 1000, 10000, 100000, 1000000};
    private static final int DEEPEST_KIND = 3;

    private final Bicycle[] bicycles = new Bicycle[BICYCLES];
    private final Bicycle trial = new Bicycle();
    private final Change change = new Change();
    private final Doubt doubt = new Doubt();

    private final int[] text = new int[MOST_BYTES];
    private int textLength = 0;
    private final Reader reader = new Reader();
    private final Rider draft = new Rider();
    private final Rider theRider = new Rider();

    private final Ride theRide = new Ride();
    private final Ride trialRide = new Ride();
    private final Habits habits = new Habits();
    private int weekUp = 5;
    private int weekDown = 3;
    private final Image[] images = new Image[IMAGES];
    private long traced = 0;

    public SelfSteer() {
        for (int i = 0; i < BICYCLES; i++) {
            bicycles[i] = new Bicycle();
        }
        for (int image = 0; image < IMAGES; image++) {
            images[image] = new Image();
        }
    }

    // ---- bicycles

    public int number(int i, int k, int v) {
        if (!isBicycle(i) || !isNumber(k) || !within(v, LOWEST[k], HIGHEST[k])) {
            return NO;
        }
        int was = bicycles[i].valueOf(k);
        bicycles[i].put(k, v);
        return was;
    }

    public int has(int i, int k) {
        return isBicycle(i) && isNumber(k) ? bicycles[i].valueOf(k) : NO;
    }

    public long sign(int i, int v, int k, int m, int j) {
        if (!isBicycle(i) || !isSpeed(v) || !isHand(k) || !isHand(m) || !within(j, 0, 3)) {
            return Long.MIN_VALUE;
        }
        Bicycle bicycle = bicycles[i];
        switch (j) {
            case 3: return bicycle.signThree();
            case 2: return bicycle.signTwo(v, m);
            case 1: return bicycle.signOne(v, k, m);
            default: return bicycle.signZero(v, k);
        }
    }

    public int stays(int i, int v, int k, int m) {
        if (!isBicycle(i) || !isSpeed(v) || !isHand(k) || !isHand(m)) {
            return BAD;
        }
        if (bicycles[i].staysUp(v, k, m)) {
            return 0;
        }
        return bicycles[i].signZero(v, k) <= 0 ? 1 : 2;
    }

    public long range(int i) {
        return isBicycle(i) ? bicycles[i].speeds() : BAD;
    }

    // ---- reasons

    public long without(int i, int k) {
        if (!isBicycle(i) || !isReason(k)) {
            return BAD;
        }
        return speedsWith(bicycles[i], k, 0);
    }

    public int reason(int i, int k, int what) {
        if (!isBicycle(i) || !isReason(k) || !within(what, 0, 1 + NUMBERS)) {
            return NO;
        }
        if (what == 0) {
            boolean holds = bicycles[i].speeds() != 0 && speedsWith(bicycles[i], k, 0) == 0;
            return holds ? 1 : 0;
        }
        int size = change.leastWithout(bicycles[i], k);
        if (size == NONE) {
            return NO;
        }
        return what == 1 ? size : change.valueFound(what - 2);
    }

    public int moves(int i, int k, int up) {
        if (!isBicycle(i) || !isNumber(k) || !isFlag(up)) {
            return NO;
        }
        int value = bicycles[i].valueOf(k) + (up == 1 ? 1 : -1);
        if (!within(value, LOWEST[k], HIGHEST[k])) {
            return 0;
        }
        return Long.bitCount(speedsWith(bicycles[i], k, value)) - bicycles[i].speedCount();
    }

    public int grid(int i, int one, int other, int what) {
        if (!isBicycle(i) || !isNumber(one) || !isNumber(other) || one == other || !within(what, 0, 2)) {
            return NO;
        }
        trial.copyFrom(bicycles[i]);
        int found = 0;
        for (int a = LOWEST[one]; a <= HIGHEST[one]; a++) {
            trial.put(one, a);
            for (int b = LOWEST[other]; b <= HIGHEST[other]; b++) {
                trial.put(other, b);
                if (trial.speeds() == 0) {
                    continue;
                }
                if (what != 0) {
                    return what == 1 ? a : b;
                }
                found++;
            }
        }
        return what == 0 ? found : NO;
    }

    public int least(int i, int v, int m) {
        if (!isBicycle(i) || !isSpeed(v) || !isHand(m)) {
            return NO;
        }
        for (int size = 0; size <= MOST_HAND; size++) {
            if (bicycles[i].staysUp(v, size, m)) {
                return size;
            }
            if (bicycles[i].staysUp(v, -size, m)) {
                return -size;
            }
        }
        return NO;
    }

    public int spread(int i, int set) {
        if (!isBicycle(i) || !within(set, 0, Doubt.SETS - 1)) {
            return BAD;
        }
        doubt.weigh(bicycles[i], set);
        return doubt.spreadOf(set);
    }

    public int fewest(int i, int d, int what) {
        if (!isBicycle(i) || !within(d, 0, FASTEST) || !isFlag(what)) {
            return BAD;
        }
        doubt.weigh(bicycles[i], 0);
        int set = doubt.fewestFor(d);
        return what == 0 ? Integer.bitCount(set) : set;
    }

    // ---- riders, rides

    public int type(long v, int n) {
        if (!within(n, 1, 8)) {
            return BAD;
        }
        if (textLength + n > MOST_BYTES) {
            return FULL;
        }
        for (int left = n - 1; left >= 0; left--) {
            text[textLength] = (int) (v >>> (8 * left)) & 255;
            textLength++;
        }
        return textLength;
    }

    public int clear() {
        int had = textLength;
        textLength = 0;
        return had;
    }

    public int rider() {
        int fault = reader.faultOf(text, textLength, draft);
        if (fault >= 0) {
            return -10 - fault;
        }
        theRider.copyFrom(draft);
        textLength = 0;
        return theRider.itemCount();
    }

    public int ride(int i, int v, int reversed) {
        if (!isBicycle(i) || !isSpeed(v) || !isFlag(reversed)) {
            return BAD;
        }
        int had = theRide.ticks;
        theRide.begin(i, v, reversed == 1);
        return had;
    }

    public int push(int by) {
        if (!within(by, -MOST_PUSH, MOST_PUSH) || theRide.lies) {
            return NO;
        }
        theRide.takePush(by);
        return theRide.lean;
    }

    public int ticks(int n) {
        if (!within(n, 1, MOST_TICKS)) {
            return BAD;
        }
        if (theRide.lies) {
            return STATE;
        }
        return theRide.goOn(n, bicycles[theRide.bicycle], theRider);
    }

    public int at(int what) {
        switch (what) {
            case 0: return theRide.lean;
            case 1: return theRide.bar;
            case 2: return theRide.leanChange;
            case 3: return theRide.barChange;
            case 4: return theRide.ticks;
            case 5: return theRide.lies ? 1 : 0;
            case 6: return theRide.hand;
            default: return NO;
        }
    }

    public int bears(int n) {
        if (!within(n, 1, MOST_TICKS)) {
            return BAD;
        }
        for (int by = 1; by <= MOST_PUSH; by++) {
            trialRide.begin(theRide.bicycle, theRide.speed, theRide.reversed);
            trialRide.takePush(by);
            trialRide.goOn(n, bicycles[theRide.bicycle], theRider);
            if (trialRide.lies) {
                return by;
            }
        }
        return NONE;
    }

    // ---- habits

    public int weeks(int which, int n) {
        if (!isBar(which) || !within(n, 1, MOST_WEEKS)) {
            return BAD;
        }
        for (int week = 0; week < n; week++) {
            habits.practise(which, weekUp, weekDown);
        }
        return habits.valueOf(which);
    }

    public int tune(int what, int v) {
        if (!isFlag(what) || !within(v, what == 0 ? 1 : 0, MOST_TUNE)) {
            return BAD;
        }
        int was;
        if (what == 0) {
            was = weekUp;
            weekUp = v;
        } else {
            was = weekDown;
            weekDown = v;
        }
        return was;
    }

    public int habit(int which, int what) {
        if (!isBar(which) || !isFlag(what)) {
            return BAD;
        }
        return what == 0 ? habits.valueOf(which) : habits.weeksTillWhole(which, weekUp);
    }

    // ---- kinds, images

    public int score(int kind, int i) {
        if (!within(kind, BICYCLE, LOADED) || !isBicycle(i)) {
            return NO;
        }
        return askKind(kind, bicycles[i], 1);
    }

    public int keep(int image) {
        if (!isImage(image)) {
            return BAD;
        }
        images[image].take(theRide, habits);
        return theRide.ticks;
    }

    public int back(int image) {
        if (!isImage(image)) {
            return BAD;
        }
        if (!images[image].kept) {
            return STATE;
        }
        images[image].giveBack(theRide, habits);
        return theRide.ticks;
    }

    public int count(int what) {
        switch (what) {
            case 0: return theRider.itemCount();
            case 1: return textLength;
            case 2: return speedsOfAll();
            default: return BAD;
        }
    }

    public long trace() {
        return traced;
    }

    /** What a KIND's body answers; "up" is asked once, and what it answers is reckoned with. */
    private int askKind(int kind, Bicycle bicycle, int depth) {
        if (!within(kind, BICYCLE, LOADED) || depth > DEEPEST_KIND) {
            return 0;
        }
        traced += TRACE_OF_KIND[kind];
        int up = askKind(KIND_ABOVE[kind], bicycle, depth + 1);
        switch (kind) {
            case PLAIN: return up + bicycle.valueOf(TRAIL);
            case UNSPUN: return up - Long.bitCount(speedsWith(bicycle, SPIN, 0));
            case UNTRAILED: return up - Long.bitCount(speedsWith(bicycle, TRAIL, 0));
            case NEITHER: return 2 * up + bicycle.valueOf(SPIN);
            case REVERSED: return up - habits.valueOf(REVERSED_BAR) / 10;
            case LOADED: return up * bicycle.valueOf(HIGH);
            default: return bicycle.speedCount();
        }
    }

    private long speedsWith(Bicycle bicycle, int k, int value) {
        trial.copyFrom(bicycle);
        trial.put(k, value);
        return trial.speeds();
    }

    private int speedsOfAll() {
        int sum = 0;
        for (int i = 0; i < BICYCLES; i++) {
            sum += bicycles[i].speedCount();
        }
        return sum;
    }

    private static boolean within(int value, int lowest, int highest) {
        return value >= lowest && value <= highest;
    }

    private static int clamp(int value, int most) {
        return Math.max(-most, Math.min(most, value));
    }

    private static boolean isBicycle(int i) {
        return within(i, 0, BICYCLES - 1);
    }

    private static boolean isNumber(int k) {
        return within(k, 0, NUMBERS - 1);
    }

    private static boolean isReason(int k) {
        return within(k, SPIN, FRONT);
    }

    private static boolean isSpeed(int v) {
        return within(v, 0, FASTEST);
    }

    private static boolean isHand(int hand) {
        return within(hand, -MOST_HAND, MOST_HAND);
    }

    private static boolean isFlag(int flag) {
        return within(flag, 0, 1);
    }

    private static boolean isBar(int which) {
        return within(which, PLAIN_BAR, REVERSED_BAR);
    }

    private static boolean isImage(int image) {
        return within(image, 0, IMAGES - 1);
    }

    /** Six NUMBERS, and what follows from them alone. */
    private static final class Bicycle {
        private final int[] numbers = new int[NUMBERS];

        private Bicycle() {
            System.arraycopy(AT_FIRST, 0, numbers, 0, NUMBERS);
        }

        private int valueOf(int k) {
            return isNumber(k) ? numbers[k] : 0;
        }

        private void put(int k, int value) {
            if (isNumber(k)) {
                numbers[k] = value;
            }
        }

        private void copyFrom(Bicycle other) {
            System.arraycopy(other.numbers, 0, numbers, 0, NUMBERS);
        }

        private long signThree() {
            return 100L * numbers[LONG] * numbers[DAMP];
        }

        private long signTwo(int v, int m) {
            long turn = (long) numbers[SPIN] * v;
            return 10L * numbers[TRAIL] * v * v
                    - 100L * numbers[LONG] * numbers[HIGH]
                    + numbers[LONG] * turn * (turn + 10L * m);
        }

        private long signOne(int v, int k, int m) {
            long turn = (long) numbers[SPIN] * v;
            long square = (long) v * v;
            return 10L * turn * (square + (long) numbers[LONG] * (numbers[TRAIL] + numbers[FRONT] + k))
                    - 100L * numbers[LONG] * numbers[HIGH] * numbers[DAMP]
                    + 100L * m * square;
        }

        private long signZero(int v, int k) {
            long square = (long) v * v;
            return 100L * square * (numbers[TRAIL] + numbers[FRONT] + k)
                    - 10L * numbers[HIGH] * numbers[TRAIL] * square;
        }

        private boolean staysUp(int v, int k, int m) {
            long zero = signZero(v, k);
            long two = signTwo(v, m);
            if (zero <= 0 || two <= 0) {
                return false;
            }
            long one = signOne(v, k, m);
            long three = signThree();
            return one > 0 && three > 0
                    && three * two * one > 100L * numbers[LONG] * one * one + three * three * zero;
        }

        private long speeds() {
            // Alone, SIGN 3 is the same at all SPEEDS, SIGN 0 that of SPEED 1 times a square, and
            // SIGN 1 is not above 0 where nothing spins: most BICYCLES need no look at each SPEED.
            if (numbers[SPIN] == 0 || signThree() <= 0 || signZero(1, 0) <= 0) {
                return 0;
            }
            long bits = 0;
            for (int v = 0; v <= FASTEST; v++) {
                if (staysUp(v, 0, 0)) {
                    bits |= 1L << v;
                }
            }
            return bits;
        }

        private int speedCount() {
            return Long.bitCount(speeds());
        }
    }

    /** ALL THE SAME: the search for the least change that gives a RANGE without a NUMBER. */
    private static final class Change {
        private static final int LARGEST = 6;
        private final Bicycle tried = new Bicycle();

        /** The least size, the BICYCLE that has it being the one tried last; or NONE. */
        private int leastWithout(Bicycle bicycle, int k) {
            for (int size = 0; size <= LARGEST; size++) {
                if (findsFrom(0, size, bicycle, k)) {
                    return size;
                }
            }
            return NONE;
        }

        private int valueFound(int j) {
            return tried.valueOf(j);
        }

        /** Tries all values of the NUMBERS j .. 5, least first, whose changes add up to size. */
        private boolean findsFrom(int j, int size, Bicycle bicycle, int k) {
            if (j >= NUMBERS) {
                return size == 0 && tried.speeds() != 0;
            }
            if (j == k) {
                tried.put(j, 0);
                return findsFrom(j + 1, size, bicycle, k);
            }
            int now = bicycle.valueOf(j);
            int highest = Math.min(HIGHEST[j], now + size);
            for (int value = Math.max(LOWEST[j], now - size); value <= highest; value++) {
                tried.put(j, value);
                if (findsFrom(j + 1, size - Math.abs(value - now), bicycle, k)) {
                    return true;
                }
            }
            return false;
        }
    }

    /** MEASURED: all BICYCLES that one could be, each NUMBER as it is, 1 less or 1 more. */
    private static final class Doubt {
        private static final int SETS = 64;
        private static final int CASES = 729;
        private static final int IMPOSSIBLE = -1;
        private final Bicycle tried = new Bicycle();
        private final int[] changed = new int[CASES];
        private final int[] speedCounts = new int[CASES];

        private Doubt() {
            for (int c = 0; c < CASES; c++) {
                changed[c] = changedIn(c);
            }
        }

        /** The NUMBERS, as bits, that are not as they are: those whose digit to base 3 is not 0. */
        private static int changedIn(int c) {
            int bits = 0;
            int rest = c;
            for (int k = 0; k < NUMBERS; k++) {
                if (rest % 3 != 0) {
                    bits |= 1 << k;
                }
                rest /= 3;
            }
            return bits;
        }

        /** Counts the SPEEDS of every case that leaves a set of NUMBERS as it is. */
        private void weigh(Bicycle bicycle, int set) {
            for (int c = 0; c < CASES; c++) {
                if ((changed[c] & set) == 0) {
                    speedCounts[c] = mayBe(bicycle, c) ? tried.speedCount() : IMPOSSIBLE;
                }
            }
        }

        private boolean mayBe(Bicycle bicycle, int c) {
            int rest = c;
            for (int k = 0; k < NUMBERS; k++) {
                int digit = rest % 3;
                int value = bicycle.valueOf(k) + (digit == 2 ? 1 : -digit);
                if (!within(value, LOWEST[k], HIGHEST[k])) {
                    return false;
                }
                tried.put(k, value);
                rest /= 3;
            }
            return true;
        }

        private int spreadOf(int set) {
            // Case 0, the BICYCLE as it is, is in every set.
            int fewest = speedCounts[0];
            int most = speedCounts[0];
            for (int c = 1; c < CASES; c++) {
                if ((changed[c] & set) == 0 && speedCounts[c] != IMPOSSIBLE) {
                    fewest = Math.min(fewest, speedCounts[c]);
                    most = Math.max(most, speedCounts[c]);
                }
            }
            return most - fewest;
        }

        private int fewestFor(int d) {
            // With all NUMBERS measured there is but one case, and so no SPREAD.
            int best = SETS - 1;
            for (int set = 0; set < SETS; set++) {
                if (Integer.bitCount(set) < Integer.bitCount(best) && spreadOf(set) <= d) {
                    best = set;
                }
            }
            return best;
        }
    }

    /** The law by which a RIDER turns the bar. */
    private static final class Rider {
        private static final int ITEMS = 5;
        private static final int LEAN = 0, RATE = 1, BAR = 2, LATE = 3, MOST = 4;
        private static final int[] UNTOLD = {0, 0, 0, 0, 999};
        private static final int[] SMALLEST = {-99, -99, -99, 0, 0};
        private static final int[] LARGEST = {99, 99, 99, 5, 999};
        private final int[] values = new int[ITEMS];
        private int toldBits = 0;

        private Rider() {
            System.arraycopy(UNTOLD, 0, values, 0, ITEMS);
        }

        private void forget() {
            System.arraycopy(UNTOLD, 0, values, 0, ITEMS);
            toldBits = 0;
        }

        private void copyFrom(Rider other) {
            System.arraycopy(other.values, 0, values, 0, ITEMS);
            toldBits = other.toldBits;
        }

        private boolean wasTold(int item) {
            return (toldBits & (1 << item)) != 0;
        }

        private void tell(int item, int value) {
            if (within(item, 0, ITEMS - 1)) {
                values[item] = value;
                toldBits |= 1 << item;
            }
        }

        private int itemCount() {
            return Integer.bitCount(toldBits);
        }
    }

    /** Reads a text TOKEN by TOKEN into a RIDER. */
    private static final class Reader {
        private static final int END = 0, WORD = 1, DASH = 2, AMOUNT = 3, STOP = 4, WRONG = 5;
        private static final int BLANK = 32;
        private static final int MOST_AMOUNT = 999;
        /** The ITEMS' words, each in a slot that blanks fill up. */
        private static final String WORDS = "lean rate bar  late most ";
        private static final int SLOT = 5;
        private int[] bytes = new int[0];
        private int length = 0;
        private int place = 0;
        /** The latest TOKEN: where it begins, what it is, and which word or how much. */
        private int begin = 0;
        private int token = END;
        private int value = 0;

        /** FAULT, or -1 where there is none; only then is the RIDER whole. */
        private int faultOf(int[] source, int count, Rider rider) {
            bytes = source;
            length = Math.min(count, source.length);
            place = 0;
            rider.forget();
            // An ITEM beyond the last one must be one that was told: it is a FAULT by itself.
            for (int told = 0; told <= Rider.ITEMS; told++) {
                next();
                if (token == END) {
                    return -1;
                }
                if (!readsItem(rider)) {
                    return begin;
                }
            }
            return begin;
        }

        private boolean readsItem(Rider rider) {
            if (token != WORD || rider.wasTold(value)) {
                return false;
            }
            int item = value;
            next();
            boolean below = token == DASH && Rider.SMALLEST[item] < 0;
            if (below) {
                next();
            }
            if (token != AMOUNT || value > Rider.LARGEST[item]) {
                return false;
            }
            int amount = below ? -value : value;
            next();
            if (token != STOP) {
                return false;
            }
            rider.tell(item, amount);
            return true;
        }

        private void next() {
            while (place < length && bytes[place] == BLANK) {
                place++;
            }
            begin = place;
            if (place >= length) {
                token = END;
            } else if (isLetter(bytes[place])) {
                readWord();
            } else if (isDigit(bytes[place])) {
                readAmount();
            } else {
                int sign = bytes[place];
                token = sign == '-' ? DASH : sign == ';' ? STOP : WRONG;
                place++;
            }
        }

        private void readWord() {
            while (place < length && isLetter(bytes[place])) {
                place++;
            }
            token = WRONG;
            for (int item = 0; item < Rider.ITEMS; item++) {
                if (isWord(item)) {
                    token = WORD;
                    value = item;
                }
            }
        }

        /** Whether the letters from begin to place are the word of an ITEM. */
        private boolean isWord(int item) {
            int letters = place - begin;
            if (letters >= SLOT || WORDS.charAt(item * SLOT + letters) != BLANK) {
                return false;
            }
            for (int letter = 0; letter < letters; letter++) {
                if (WORDS.charAt(item * SLOT + letter) != bytes[begin + letter]) {
                    return false;
                }
            }
            return true;
        }

        private void readAmount() {
            value = 0;
            while (place < length && isDigit(bytes[place])) {
                // One above the most is enough to know that it is too much, however long it is.
                value = Math.min(value * 10 + bytes[place] - '0', MOST_AMOUNT + 1);
                place++;
            }
            boolean zeroAhead = bytes[begin] == '0' && place - begin > 1;
            token = zeroAhead || value > MOST_AMOUNT ? WRONG : AMOUNT;
        }

        private static boolean isLetter(int sign) {
            return within(sign, 'a', 'z');
        }

        private static boolean isDigit(int sign) {
            return within(sign, '0', '9');
        }
    }

    /** A RIDE, with what it was as the latest TICKS began. */
    private static final class Ride {
        private static final int FALLEN = 1000;
        private static final int MOST_CHANGE = 100000;
        private static final int MOST_BAR = 10000;
        /** As many TICKS as the latest RIDER looks back, and the one that begins. */
        private static final int MEMORY = 6;
        private int bicycle = 0;
        private int speed = 0;
        private boolean reversed = false;
        private int lean = 0;
        private int bar = 0;
        private int leanChange = 0;
        private int barChange = 0;
        private int hand = 0;
        private int ticks = 0;
        private boolean lies = false;
        private final int[] pastLean = new int[MEMORY];
        private final int[] pastLeanChange = new int[MEMORY];
        private final int[] pastBar = new int[MEMORY];

        private void begin(int i, int v, boolean turned) {
            bicycle = i;
            speed = v;
            reversed = turned;
            lean = 0;
            bar = 0;
            leanChange = 0;
            barChange = 0;
            hand = 0;
            ticks = 0;
            lies = false;
        }

        private void copyFrom(Ride other) {
            bicycle = other.bicycle;
            speed = other.speed;
            reversed = other.reversed;
            lean = other.lean;
            bar = other.bar;
            leanChange = other.leanChange;
            barChange = other.barChange;
            hand = other.hand;
            ticks = other.ticks;
            lies = other.lies;
            System.arraycopy(other.pastLean, 0, pastLean, 0, MEMORY);
            System.arraycopy(other.pastLeanChange, 0, pastLeanChange, 0, MEMORY);
            System.arraycopy(other.pastBar, 0, pastBar, 0, MEMORY);
        }

        private void takePush(int by) {
            lean += by;
            lookWhetherItFalls();
        }

        /** At most n TICKS: how many there were. */
        private int goOn(int n, Bicycle ridden, Rider rider) {
            int done = 0;
            while (done < n && !lies) {
                doTick(ridden, rider);
                done++;
            }
            return done;
        }

        private void doTick(Bicycle ridden, Rider rider) {
            remember();
            hand = handOf(rider);
            int[] numbers = ridden.numbers;
            int longness = Math.max(1, numbers[LONG]);
            int square = speed * speed;
            int turn = numbers[SPIN] * speed;
            int trail = numbers[TRAIL];
            int leanForce = numbers[HIGH] * lean - square * bar / longness - turn * barChange / 10;
            int barForce = (trail + numbers[FRONT]) * lean + turn * leanChange / 10
                    - trail * square * bar / (10 * longness) - numbers[DAMP] * barChange + hand;
            leanChange = clamp(leanChange + leanForce / 20, MOST_CHANGE);
            barChange = clamp(barChange + barForce / 20, MOST_CHANGE);
            lean += leanChange / 20;
            bar = clamp(bar + barChange / 20, MOST_BAR);
            ticks++;
            lookWhetherItFalls();
        }

        private void remember() {
            int slot = Math.floorMod(ticks, MEMORY);
            pastLean[slot] = lean;
            pastLeanChange[slot] = leanChange;
            pastBar[slot] = bar;
        }

        private int handOf(Rider rider) {
            int then = ticks - rider.values[Rider.LATE];
            if (then < 0) {
                return 0;
            }
            int slot = Math.floorMod(then, MEMORY);
            int sum = rider.values[Rider.LEAN] * pastLean[slot]
                    + rider.values[Rider.RATE] * pastLeanChange[slot]
                    + rider.values[Rider.BAR] * pastBar[slot];
            int held = clamp(sum / 10, rider.values[Rider.MOST]);
            return reversed ? -held : held;
        }

        private void lookWhetherItFalls() {
            lies = lean > FALLEN || lean < -FALLEN;
        }
    }

    /** HABITS of both bars, and which of them was whole once. */
    private static final class Habits {
        private static final int BARS = 2;
        private static final int WHOLE = 100;
        private final int[] values = {WHOLE, 0};
        private final boolean[] wasWhole = {true, false};

        private int valueOf(int which) {
            return isBar(which) ? values[which] : 0;
        }

        private void practise(int which, int up, int down) {
            if (!isBar(which)) {
                return;
            }
            int other = 1 - which;
            values[which] = wasWhole[which] ? WHOLE : Math.min(WHOLE, values[which] + up);
            wasWhole[which] = values[which] == WHOLE;
            values[other] = Math.max(0, values[other] - down);
        }

        private int weeksTillWhole(int which, int up) {
            if (!isBar(which)) {
                return 0;
            }
            int lacking = WHOLE - values[which];
            if (wasWhole[which]) {
                return Math.min(1, lacking);
            }
            int step = Math.max(1, up);
            return (lacking + step - 1) / step;
        }

        private void copyFrom(Habits other) {
            for (int which = 0; which < BARS; which++) {
                values[which] = other.values[which];
                wasWhole[which] = other.wasWhole[which];
            }
        }
    }

    /** THE RIDE and HABITS as they were when they were kept. */
    private static final class Image {
        private final Ride ride = new Ride();
        private final Habits habits = new Habits();
        private boolean kept = false;

        private void take(Ride fromRide, Habits fromHabits) {
            ride.copyFrom(fromRide);
            habits.copyFrom(fromHabits);
            kept = true;
        }

        private void giveBack(Ride toRide, Habits toHabits) {
            toRide.copyFrom(ride);
            toHabits.copyFrom(habits);
        }
    }
}
