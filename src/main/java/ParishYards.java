/**
 * Yardsticks of five parishes, and the tables by which each is turned into another.
 *
 * <p>All rows are made in constructors and used again, so that no call makes an object beside the
 * exception that it throws. Rows are read and written by at() and put(), which look at the index
 * first.
 */
public final class ParishYards {
    public static final int NONE = -1;

    private static final int PARISHES = 5;
    private static final int LEAST_STICK = 20;
    private static final int MOST_STICK = 60;
    private static final int FIRST_STICK = 36;
    private static final int MOST_FACTOR = 99;

    private static final int MOST_BOLTS = 8;
    private static final int MOST_LENGTH = 99999;
    private static final int MOST_NEW_LENGTH = 9999;

    private static final int SETTINGS = 3;
    private static final int BOUND = 0;
    private static final int ROUNDING = 1;
    private static final int STEPS = 2;

    private static final int MOST_CODES = 60;
    private static final int MOST_SAVED = 6;

    /** Why a part of a text, or the call that it stands for, is not done; 0 if nothing is against it. */
    private static final int NO_REASON = 0;
    private static final int LIES_THERE = 1;
    private static final int NO_TABLE_TO_SEND_BY = 2;
    private static final int TOO_LONG = 3;
    private static final int SAME_PARISH = 4;
    private static final int RING_OFF = 5;
    private static final int NO_TABLE = 6;
    private static final int NO_BOLT = 7;
    private static final int NINTH_BOLT = 8;

    /**
     * All rings that five parishes can have, in the order of rings, each as ring() tells it with 1: a
     * 0 in front falls away, so the place tells how many parishes there are.
     */
    private static final int[] RINGS = {
        12, 13, 14, 23, 24, 34, 123, 124, 134, 234,
        123, 124, 132, 134, 142, 143, 213, 214, 234, 243, 314, 324, 1234, 1243, 1324,
        1234, 1243, 1324, 1342, 1423, 1432, 2134, 2143, 2314, 2413, 3124, 3214
    };
    private static final int ALL_RINGS = 37;
    private static final int RINGS_OF_THREE = 10;
    private static final int RINGS_UP_TO_FOUR = 25;

    /**
     * All ways between two parishes, in the order of ways: digit 1 to 3 is the first to third of the
     * three other parishes that the way comes to. Way 0 is the table of the two themselves.
     */
    private static final int[] MIDDLES = {
        0, 1, 2, 3, 12, 13, 21, 23, 31, 32, 123, 132, 213, 231, 312, 321
    };
    private static final int ALL_WAYS = 16;

    private static final long LOWEST_WITH_53_BITS = 1L << 52;

    private final Yards now;
    private final Yards kept;
    private final History history;
    private final Text text;
    private final Rings rings;
    private final Way way;
    private final Measures measures;
    private final int[] part;
    private boolean hasKept;

    public ParishYards() {
        now = new Yards();
        kept = new Yards();
        history = new History();
        text = new Text();
        rings = new Rings();
        way = new Way();
        measures = new Measures();
        part = new int[4];
        hasKept = false;
    }

    // ---- sticks, tables

    public int stick(int parish, int inches) throws IndexOutOfBoundsException, IllegalArgumentException {
        checkParish(parish);
        checkRange(inches, LEAST_STICK, MOST_STICK);
        history.push(now);
        int previous = at(now.sticks, parish);
        put(now.sticks, parish, inches);
        return previous;
    }

    public int table(int from, int to, int up, int down)
            throws IndexOutOfBoundsException, IllegalArgumentException, IllegalStateException {
        checkPair(from, to);
        checkRange(up, 1, MOST_FACTOR);
        checkRange(down, 1, MOST_FACTOR);
        if (rings.firstOffBy(now.tables, from, to, up, down, bound()) >= 0) {
            throw new IllegalStateException("a ring would be off");
        }
        history.push(now);
        now.tables.lay(from, to, up, down);
        return rings.standing(now.tables);
    }

    public int drop(int from, int to) throws IndexOutOfBoundsException, IllegalStateException {
        checkParish(from);
        checkParish(to);
        if (!now.tables.has(from, to)) {
            throw new IllegalStateException("there is no table");
        }
        history.push(now);
        now.tables.lay(from, to, 0, 0);
        return rings.standing(now.tables);
    }

    public int set(int setting, int value) throws IndexOutOfBoundsException, IllegalArgumentException {
        if (setting < 0 || setting >= SETTINGS) {
            throw new IndexOutOfBoundsException("no such setting");
        }
        checkRange(value, leastOfSetting(setting), mostOfSetting(setting));
        history.push(now);
        int previous = at(now.settings, setting);
        put(now.settings, setting, value);
        return previous;
    }

    // ---- bolts

    public int bolt(int parish, int length)
            throws IndexOutOfBoundsException, IllegalArgumentException, IllegalStateException {
        checkParish(parish);
        checkRange(length, 1, MOST_NEW_LENGTH);
        if (now.bolts.size >= MOST_BOLTS) {
            throw new IllegalStateException("there are 8 bolts");
        }
        history.push(now);
        now.bolts.come(parish, length);
        return now.bolts.size - 1;
    }

    public int send(int bolt, int parish) throws IndexOutOfBoundsException, IllegalStateException {
        checkBolt(bolt);
        checkParish(parish);
        if (whyNoSend(bolt, parish) != NO_REASON) {
            throw new IllegalStateException("the bolt cannot be sent");
        }
        history.push(now);
        moveBolt(bolt, parish);
        return at(now.bolts.lengths, bolt);
    }

    public int sell(int bolt) throws IndexOutOfBoundsException {
        checkBolt(bolt);
        history.push(now);
        int inches = at(now.sticks, at(now.bolts.parishes, bolt));
        int length = at(now.bolts.lengths, bolt);
        now.bolts.go(bolt);
        return inches > 0 ? length / inches : 0;
    }

    // ---- texts

    public int append(int code) throws IllegalArgumentException, IllegalStateException {
        checkRange(code, 33, 126);
        if (text.length >= MOST_CODES) {
            throw new IllegalStateException("the buffer is full");
        }
        text.add(code);
        return text.length;
    }

    public int clearBuffer() {
        return text.empty();
    }

    public int firstError() {
        return text.read();
    }

    public int work() throws IllegalArgumentException {
        if (!text.isComplete()) {
            throw new IllegalArgumentException("the buffer is not complete works");
        }
        history.push(now);
        int done = 0;
        int reason = NO_REASON;
        int start = 0;
        while (start < text.length && reason == NO_REASON) {
            int end = text.readPart(start, part);
            reason = doPart(at(text.codes, start));
            if (reason == NO_REASON) {
                done++;
            }
            start = Math.max(start, end) + 1;
        }
        now.stopPart = done;
        now.stopReason = reason;
        text.empty();
        return done;
    }

    public int stopped(int what) throws IllegalArgumentException {
        checkRange(what, 0, 1);
        if (now.stopReason == NO_REASON) {
            return NONE;
        }
        return what == 0 ? now.stopPart : now.stopReason;
    }

    // ---- undo, the snapshot

    public int undo() throws IllegalStateException {
        if (history.size <= 0) {
            throw new IllegalStateException("there is no saved state");
        }
        history.pop(now);
        return history.size;
    }

    public int keep() {
        kept.copy(now);
        hasKept = true;
        return now.tables.size();
    }

    public int restore() throws IllegalStateException {
        if (!hasKept) {
            throw new IllegalStateException("there is no snapshot");
        }
        history.push(now);
        now.copy(kept);
        return now.tables.size();
    }

    // ---- looks; nothing is changed

    public int tableOf(int from, int to, int what)
            throws IndexOutOfBoundsException, IllegalArgumentException {
        checkPair(from, to);
        checkRange(what, 0, 2);
        if (what == 2) {
            return rings.standingWith(now.tables, from, to);
        }
        if (!now.tables.has(from, to)) {
            return NONE;
        }
        return what == 0 ? now.tables.up(from, to) : now.tables.up(to, from);
    }

    public int ring(int ring, int what) throws IllegalArgumentException {
        if (ring < 0) {
            throw new IllegalArgumentException("a ring below 0");
        }
        checkRange(what, 0, 3);
        int found = rings.standingAt(now.tables, ring);
        if (found < 0) {
            return NONE;
        }
        switch (what) {
            case 0:
                return ringSize(found);
            case 1:
                return at(RINGS, found);
            case 2:
                return (int) Math.max(0L, Math.min(2000000000L, rings.gain(now.tables, found) + 1000000L));
            default:
                return rings.isOff(now.tables, found, bound()) ? 1 : 0;
        }
    }

    public int boltOf(int bolt, int what) throws IndexOutOfBoundsException, IllegalArgumentException {
        checkBolt(bolt);
        checkRange(what, 0, 3);
        switch (what) {
            case 0:
                return at(now.bolts.parishes, bolt);
            case 1:
                return at(now.bolts.lengths, bolt);
            case 2:
                return at(now.bolts.gains, bolt) + 1000000;
            default:
                return at(now.bolts.sendings, bolt);
        }
    }

    public int count(int what) throws IllegalArgumentException {
        checkRange(what, 0, 17);
        if (what >= 12 && what <= 16) {
            return at(now.sticks, what - 12);
        }
        if (what >= 9 && what <= 11) {
            return at(now.settings, what - 9);
        }
        switch (what) {
            case 0:
                return now.tables.size();
            case 1:
                return rings.standing(now.tables);
            case 2:
                return rings.off(now.tables, bound());
            case 3:
                return rings.areSound(now.tables) ? 1 : 0;
            case 4:
                return measures.areSound(now.tables) ? 1 : 0;
            case 5:
                return now.bolts.size;
            case 6:
                return now.bolts.lengthOfAll();
            case 7:
                return now.bolts.gained + 10000000;
            case 8:
                return now.bolts.sold;
            default:
                return history.size;
        }
    }

    // ---- what would be; nothing is changed

    public int offBy(int from, int to, int up, int down)
            throws IndexOutOfBoundsException, IllegalArgumentException {
        checkPair(from, to);
        checkRange(up, 1, MOST_FACTOR);
        checkRange(down, 1, MOST_FACTOR);
        int ring = rings.firstOffBy(now.tables, from, to, up, down, bound());
        return ring < 0 ? 0 : at(RINGS, ring);
    }

    public int turned(int from, int to, int length)
            throws IndexOutOfBoundsException, IllegalArgumentException {
        checkPair(from, to);
        checkRange(length, 0, MOST_LENGTH);
        if (!now.tables.has(from, to)) {
            return NONE;
        }
        return (int) turn(length, now.tables.up(from, to), now.tables.up(to, from), rounding());
    }

    public int bestWay(int from, int to, int length)
            throws IndexOutOfBoundsException, IllegalArgumentException {
        checkPair(from, to);
        checkRange(length, 0, MOST_NEW_LENGTH);
        int best = NONE;
        long least = 0;
        for (int i = 0; i < ALL_WAYS; i++) {
            way.choose(from, to, i);
            if (way.size - 1 <= at(now.settings, STEPS) && way.stands(now.tables)) {
                long lost = way.roundedOff(now.tables, length, rounding());
                // The ways come in the order that settles ties: a later one has to be better.
                if (best == NONE || lost < least) {
                    best = way.number() + 100000;
                    least = lost;
                }
            }
        }
        return best;
    }

    public int mends(int from, int to, int what)
            throws IndexOutOfBoundsException, IllegalArgumentException {
        checkPair(from, to);
        checkRange(what, 0, 1);
        // Way 0 is their own table; the first of the others that stands has the fewest steps.
        for (int i = 1; i < ALL_WAYS; i++) {
            way.choose(from, to, i);
            if (way.stands(now.tables)) {
                return lowestTerm(way.product(now.tables, true), way.product(now.tables, false), what);
            }
        }
        return NONE;
    }

    public double trueShare() {
        int all = rings.standing(now.tables);
        if (all <= 0) {
            return 1.0;
        }
        return (double) (all - rings.off(now.tables, bound())) / (double) all;
    }

    public long digest() {
        long hash = 3851L;
        for (int what = 0; what <= 17; what++) {
            hash = 31L * hash + count(what);
        }
        hash = hashPairs(hash);
        hash = hashRings(hash);
        hash = hashBolts(hash);
        hash = 31L * hash + stopped(0);
        hash = 31L * hash + stopped(1);
        hash = 31L * hash + offBy(0, 1, 3, 2);
        hash = 31L * hash + turned(0, 1, 1000);
        hash = 31L * hash + bitsOfShare(trueShare());
        hash = 31L * hash + text.length;
        for (int i = 0; i < text.length; i++) {
            hash = 31L * hash + at(text.codes, i);
        }
        return hash;
    }

    // ---- the parts of the digest

    private long hashPairs(long start) {
        long hash = start;
        for (int a = 0; a < PARISHES; a++) {
            for (int b = a + 1; b < PARISHES; b++) {
                hash = 31L * hash + tableOf(a, b, 0);
                hash = 31L * hash + tableOf(a, b, 1);
                hash = 31L * hash + tableOf(a, b, 2);
                hash = 31L * hash + mends(a, b, 0);
                hash = 31L * hash + mends(a, b, 1);
                hash = 31L * hash + bestWay(a, b, 100);
            }
        }
        return hash;
    }

    private long hashRings(long start) {
        long hash = start;
        int all = rings.standing(now.tables);
        for (int i = 0; i < all; i++) {
            for (int what = 0; what <= 3; what++) {
                hash = 31L * hash + ring(i, what);
            }
        }
        return hash;
    }

    private long hashBolts(long start) {
        long hash = start;
        int all = now.bolts.size;
        for (int i = 0; i < all; i++) {
            for (int what = 0; what <= 3; what++) {
                hash = 31L * hash + boltOf(i, what);
            }
        }
        return hash;
    }

    /** The bits of a double from 0 to 1: the language leaves no call that tells them. */
    private static long bitsOfShare(double share) {
        if (!(share > 0.0)) {
            return 0L;
        }
        double scaled = share;
        long exponent = 1023L;
        for (int i = 0; i < 1000 && scaled < 1.0; i++) {
            scaled = scaled * 2.0;
            exponent--;
        }
        long mantissa = (long) (scaled * (double) LOWEST_WITH_53_BITS);
        return (exponent << 52) + (mantissa - LOWEST_WITH_53_BITS);
    }

    // ---- the works of a text, and how a bolt is sent

    /** Does the part whose numbers were read, or tells why not; its first sign tells its kind. */
    private int doPart(int sign) {
        int first = at(part, 0);
        int second = at(part, 1);
        switch (sign) {
            case '-':
                return doDrop(first, second);
            case 'b':
                return doBolt(first, second);
            case 's':
                return doSend(first, second);
            default:
                return doTable(first, second, at(part, 2), at(part, 3));
        }
    }

    private int doTable(int from, int to, int up, int down) {
        if (from == to) {
            return SAME_PARISH;
        }
        if (rings.firstOffBy(now.tables, from, to, up, down, bound()) >= 0) {
            return RING_OFF;
        }
        now.tables.lay(from, to, up, down);
        return NO_REASON;
    }

    private int doDrop(int from, int to) {
        if (from == to) {
            return SAME_PARISH;
        }
        if (!now.tables.has(from, to)) {
            return NO_TABLE;
        }
        now.tables.lay(from, to, 0, 0);
        return NO_REASON;
    }

    private int doBolt(int parish, int length) {
        if (now.bolts.size >= MOST_BOLTS) {
            return NINTH_BOLT;
        }
        now.bolts.come(parish, length);
        return NO_REASON;
    }

    private int doSend(int bolt, int parish) {
        if (!now.bolts.has(bolt)) {
            return NO_BOLT;
        }
        int reason = whyNoSend(bolt, parish);
        if (reason == NO_REASON) {
            moveBolt(bolt, parish);
        }
        return reason;
    }

    private int whyNoSend(int bolt, int parish) {
        int from = at(now.bolts.parishes, bolt);
        if (from == parish) {
            return LIES_THERE;
        }
        if (!now.tables.has(from, parish)) {
            return NO_TABLE_TO_SEND_BY;
        }
        return lengthSent(bolt, parish) > MOST_LENGTH ? TOO_LONG : NO_REASON;
    }

    private long lengthSent(int bolt, int parish) {
        int from = at(now.bolts.parishes, bolt);
        int length = at(now.bolts.lengths, bolt);
        return turn(length, now.tables.up(from, parish), now.tables.up(parish, from), rounding());
    }

    private void moveBolt(int bolt, int parish) {
        int from = at(now.bolts.parishes, bolt);
        int length = at(now.bolts.lengths, bolt);
        long there = lengthSent(bolt, parish);
        long gain = gainOfTurn(length, there, now.tables.up(from, parish), now.tables.up(parish, from));
        now.bolts.move(bolt, parish, (int) there, (int) gain);
    }

    // ---- settings

    private int bound() {
        return at(now.settings, BOUND);
    }

    private int rounding() {
        return at(now.settings, ROUNDING);
    }

    private static int leastOfSetting(int setting) {
        return setting == STEPS ? 1 : 0;
    }

    private static int mostOfSetting(int setting) {
        if (setting == BOUND) {
            return 500;
        }
        return setting == ROUNDING ? 1 : PARISHES - 1;
    }

    // ---- tests of arguments

    private static void checkParish(int parish) {
        if (!isParish(parish)) {
            throw new IndexOutOfBoundsException("no such parish");
        }
    }

    private static void checkPair(int from, int to) {
        if (!isParish(from) || !isParish(to)) {
            throw new IndexOutOfBoundsException("no such parish");
        }
        if (from == to) {
            throw new IllegalArgumentException("both parishes are the same");
        }
    }

    private void checkBolt(int bolt) {
        if (!now.bolts.has(bolt)) {
            throw new IndexOutOfBoundsException("no such bolt");
        }
    }

    private static void checkRange(int value, int least, int most) {
        if (value < least || value > most) {
            throw new IllegalArgumentException("out of range");
        }
    }

    private static boolean isParish(int parish) {
        return parish >= 0 && parish < PARISHES;
    }

    // ---- rows and numbers

    private static int at(int[] row, int place) {
        return row != null && place >= 0 && place < row.length ? row[place] : 0;
    }

    private static void put(int[] row, int place, int value) {
        if (row != null && place >= 0 && place < row.length) {
            row[place] = value;
        }
    }

    private static long longAt(long[] row, int place) {
        return row != null && place >= 0 && place < row.length ? row[place] : 0L;
    }

    private static void putLong(long[] row, int place, long value) {
        if (row != null && place >= 0 && place < row.length) {
            row[place] = value;
        }
    }

    private static void copyRow(int[] from, int[] to) {
        if (from == null || to == null) {
            return;
        }
        for (int i = 0; i < from.length && i < to.length; i++) {
            to[i] = from[i];
        }
    }

    /** The length that a length is turned to; lengths are not below 0. */
    private static long turn(long length, int up, int down, int rounding) {
        if (down <= 0) {
            return 0L;
        }
        if (rounding == 1) {
            return length * up / down;
        }
        return (2L * length * up + down) / (2L * down);
    }

    private static long gainOfTurn(long length, long there, int up, int down) {
        return down > 0 ? Math.floorDiv((there * down - length * up) * 1000L, (long) down) : 0L;
    }

    /** The up (0) or the down (1) of a fraction in lowest terms; NONE if one of them is no factor of a table. */
    private static int lowestTerm(long up, long down, int what) {
        long divisor = commonDivisor(up, down);
        if (divisor <= 0) {
            return NONE;
        }
        long lowUp = up / divisor;
        long lowDown = down / divisor;
        if (lowUp > MOST_FACTOR || lowDown > MOST_FACTOR) {
            return NONE;
        }
        return (int) (what == 0 ? lowUp : lowDown);
    }

    private static long commonDivisor(long one, long other) {
        long a = one;
        long b = other;
        for (int i = 0; i < 1000 && b > 0; i++) {
            long rest = a % b;
            a = b;
            b = rest;
        }
        return a;
    }

    /** The bit that stands for the pair of two parishes, whichever of them comes first. */
    private static int bitOf(int one, int other) {
        return 1 << (Math.min(one, other) * PARISHES + Math.max(one, other));
    }

    private static int ringSize(int ring) {
        if (ring < RINGS_OF_THREE) {
            return 3;
        }
        return ring < RINGS_UP_TO_FOUR ? 4 : 5;
    }

    /** The tables of all pairs. */
    private static final class Tables {
        /** By from and to; the down of a table is its up the other way around. 0 if there is none. */
        private final int[] ups;
        /** A bit for each pair that has a table. */
        private int pairs;

        Tables() {
            ups = new int[PARISHES * PARISHES];
            pairs = 0;
        }

        void copy(Tables other) {
            copyRow(other.ups, ups);
            pairs = other.pairs;
        }

        int up(int from, int to) {
            if (from < 0 || from >= PARISHES || to < 0 || to >= PARISHES) {
                return 0;
            }
            int place = from * PARISHES + to;
            return place >= 0 && place < ups.length ? ups[place] : 0;
        }

        boolean has(int from, int to) {
            return up(from, to) > 0;
        }

        int size() {
            return Integer.bitCount(pairs);
        }

        /** Sets a table, or drops it by up 0 and down 0. */
        void lay(int from, int to, int up, int down) {
            if (!isParish(from) || !isParish(to) || from == to) {
                return;
            }
            put(ups, from * PARISHES + to, up);
            put(ups, to * PARISHES + from, down);
            int bit = bitOf(from, to);
            pairs = up > 0 ? pairs | bit : pairs & ~bit;
        }
    }

    /** The bolts that lie in the parishes, and what is remembered of those that were sold. */
    private static final class Bolts {
        private final int[] parishes;
        private final int[] lengths;
        private final int[] gains;
        private final int[] sendings;
        private int size;
        private int sold;
        private int gained;

        Bolts() {
            parishes = new int[MOST_BOLTS];
            lengths = new int[MOST_BOLTS];
            gains = new int[MOST_BOLTS];
            sendings = new int[MOST_BOLTS];
            size = 0;
            sold = 0;
            gained = 0;
        }

        void copy(Bolts other) {
            copyRow(other.parishes, parishes);
            copyRow(other.lengths, lengths);
            copyRow(other.gains, gains);
            copyRow(other.sendings, sendings);
            size = other.size;
            sold = other.sold;
            gained = other.gained;
        }

        boolean has(int bolt) {
            return bolt >= 0 && bolt < size;
        }

        void come(int parish, int length) {
            if (size >= MOST_BOLTS) {
                return;
            }
            put(parishes, size, parish);
            put(lengths, size, length);
            put(gains, size, 0);
            put(sendings, size, 0);
            size++;
        }

        void move(int bolt, int parish, int length, int gain) {
            put(parishes, bolt, parish);
            put(lengths, bolt, length);
            put(gains, bolt, at(gains, bolt) + gain);
            put(sendings, bolt, at(sendings, bolt) + 1);
            gained += gain;
        }

        void go(int bolt) {
            closeUp(parishes, bolt);
            closeUp(lengths, bolt);
            closeUp(gains, bolt);
            closeUp(sendings, bolt);
            size--;
            sold++;
        }

        private void closeUp(int[] row, int bolt) {
            for (int i = bolt; i < size - 1; i++) {
                put(row, i, at(row, i + 1));
            }
        }

        int lengthOfAll() {
            int sum = 0;
            for (int i = 0; i < size; i++) {
                sum += at(lengths, i);
            }
            return sum;
        }
    }

    /** The state that is saved and kept: all but the buffer, the saved states and the snapshot. */
    private static final class Yards {
        private final int[] sticks;
        private final int[] settings;
        private final Tables tables;
        private final Bolts bolts;
        private int stopPart;
        private int stopReason;

        Yards() {
            sticks = new int[PARISHES];
            for (int i = 0; i < PARISHES; i++) {
                put(sticks, i, FIRST_STICK);
            }
            settings = new int[SETTINGS];
            put(settings, STEPS, PARISHES - 1);
            tables = new Tables();
            bolts = new Bolts();
            stopPart = 0;
            stopReason = NO_REASON;
        }

        void copy(Yards other) {
            copyRow(other.sticks, sticks);
            copyRow(other.settings, settings);
            tables.copy(other.tables);
            bolts.copy(other.bolts);
            stopPart = other.stopPart;
            stopReason = other.stopReason;
        }
    }

    /** The saved states, the oldest one first. */
    private static final class History {
        private final Yards[] saved;
        private int size;

        History() {
            saved = new Yards[MOST_SAVED];
            for (int i = 0; i < saved.length; i++) {
                saved[i] = new Yards();
            }
            size = 0;
        }

        void push(Yards state) {
            if (size >= saved.length) {
                dropOldest();
            }
            if (size >= 0 && size < saved.length && saved[size] != null) {
                saved[size].copy(state);
                size++;
            }
        }

        /** Puts the row of the oldest state behind the others, to be used again. */
        private void dropOldest() {
            if (saved.length == 0) {
                return;
            }
            Yards oldest = saved[0];
            for (int i = 0; i < saved.length - 1; i++) {
                saved[i] = saved[i + 1];
            }
            saved[saved.length - 1] = oldest;
            size = saved.length - 1;
        }

        void pop(Yards state) {
            int latest = size - 1;
            if (latest >= 0 && latest < saved.length && saved[latest] != null) {
                state.copy(saved[latest]);
                size = latest;
            }
        }
    }

    /** All rings that could be, each told by its place in RINGS; those whose tables there are stand. */
    private static final class Rings {
        /** Five places for each ring. */
        private final int[] parishes;
        /** A bit for each pair whose table a ring has. */
        private final int[] pairs;
        /** The tables as they would be. */
        private final Tables trial;

        Rings() {
            parishes = new int[ALL_RINGS * PARISHES];
            pairs = new int[ALL_RINGS];
            trial = new Tables();
            for (int ring = 0; ring < ALL_RINGS; ring++) {
                int size = ringSize(ring);
                int number = at(RINGS, ring);
                for (int i = size - 1; i >= 0; i--) {
                    put(parishes, ring * PARISHES + i, number % 10);
                    number = number / 10;
                }
                int bits = 0;
                int a = parishAt(ring, size - 1);
                for (int i = 0; i < size; i++) {
                    int b = parishAt(ring, i);
                    bits |= bitOf(a, b);
                    a = b;
                }
                put(pairs, ring, bits);
            }
        }

        private int parishAt(int ring, int place) {
            return at(parishes, ring * PARISHES + place);
        }

        private boolean stands(Tables tables, int ring) {
            int bits = at(pairs, ring);
            return (tables.pairs & bits) == bits;
        }

        private boolean standsWith(Tables tables, int ring, int bit) {
            return (at(pairs, ring) & bit) != 0 && stands(tables, ring);
        }

        int standing(Tables tables) {
            int found = 0;
            for (int ring = 0; ring < ALL_RINGS; ring++) {
                if (stands(tables, ring)) {
                    found++;
                }
            }
            return found;
        }

        int standingWith(Tables tables, int from, int to) {
            int bit = bitOf(from, to);
            int found = 0;
            for (int ring = 0; ring < ALL_RINGS; ring++) {
                if (standsWith(tables, ring, bit)) {
                    found++;
                }
            }
            return found;
        }

        /** The ring at a place in the order of those that stand; below 0 if there are not so many. */
        int standingAt(Tables tables, int place) {
            int before = 0;
            for (int ring = 0; ring < ALL_RINGS; ring++) {
                if (stands(tables, ring)) {
                    if (before == place) {
                        return ring;
                    }
                    before++;
                }
            }
            return -1;
        }

        /** The product of the ups of a ring that stands, or of its downs. */
        private long product(Tables tables, int ring, boolean ofUps) {
            int size = ringSize(ring);
            int start = ring * PARISHES;
            long product = 1L;
            int a = at(parishes, start + size - 1);
            for (int i = 0; i < size; i++) {
                int b = at(parishes, start + i);
                product *= ofUps ? tables.up(a, b) : tables.up(b, a);
                a = b;
            }
            return product;
        }

        long gain(Tables tables, int ring) {
            long up = product(tables, ring, true);
            long down = product(tables, ring, false);
            return down > 0L ? Math.floorDiv((up - down) * 10000L, down) : 0L;
        }

        boolean isOff(Tables tables, int ring, int bound) {
            return Math.abs(gain(tables, ring)) > bound;
        }

        int off(Tables tables, int bound) {
            int found = 0;
            for (int ring = 0; ring < ALL_RINGS; ring++) {
                if (stands(tables, ring) && isOff(tables, ring, bound)) {
                    found++;
                }
            }
            return found;
        }

        /** The first ring with a new table that would be off by it; below 0 if none would be. */
        int firstOffBy(Tables tables, int from, int to, int up, int down, int bound) {
            trial.copy(tables);
            trial.lay(from, to, up, down);
            int bit = bitOf(from, to);
            for (int ring = 0; ring < ALL_RINGS; ring++) {
                if (standsWith(trial, ring, bit) && Math.abs(gain(trial, ring)) > bound) {
                    return ring;
                }
            }
            return -1;
        }

        boolean areSound(Tables tables) {
            for (int ring = 0; ring < ALL_RINGS; ring++) {
                if (stands(tables, ring)
                        && product(tables, ring, true) != product(tables, ring, false)) {
                    return false;
                }
            }
            return true;
        }
    }

    /** What an inch of the lowest parish that can be reached is in each parish, as fractions; 0 if not told yet. */
    private static final class Measures {
        private final long[] ups;
        private final long[] downs;

        Measures() {
            ups = new long[PARISHES];
            downs = new long[PARISHES];
        }

        /** The fractions have at most four factors of 99, so that their products stay in a long. */
        boolean areSound(Tables tables) {
            measure(tables);
            for (int a = 0; a < PARISHES; a++) {
                for (int b = a + 1; b < PARISHES; b++) {
                    if (tables.has(a, b) && !agrees(tables, a, b)) {
                        return false;
                    }
                }
            }
            return true;
        }

        private boolean agrees(Tables tables, int a, int b) {
            return longAt(ups, a) * tables.up(a, b) * longAt(downs, b)
                    == longAt(ups, b) * tables.up(b, a) * longAt(downs, a);
        }

        private void measure(Tables tables) {
            for (int i = 0; i < PARISHES; i++) {
                putLong(ups, i, 0L);
                putLong(downs, i, 0L);
            }
            for (int lowest = 0; lowest < PARISHES; lowest++) {
                if (!isMeasured(lowest)) {
                    putLong(ups, lowest, 1L);
                    putLong(downs, lowest, 1L);
                    spread(tables);
                }
            }
        }

        private boolean isMeasured(int parish) {
            return longAt(ups, parish) > 0L;
        }

        /** One round a step: no parish is more than four steps away. */
        private void spread(Tables tables) {
            for (int round = 1; round < PARISHES; round++) {
                for (int from = 0; from < PARISHES; from++) {
                    for (int to = 0; to < PARISHES; to++) {
                        if (tables.has(from, to) && isMeasured(from) && !isMeasured(to)) {
                            putLong(ups, to, longAt(ups, from) * tables.up(from, to));
                            putLong(downs, to, longAt(downs, from) * tables.up(to, from));
                        }
                    }
                }
            }
        }
    }

    /** A way from one parish to another one, chosen out of MIDDLES. */
    private static final class Way {
        private final int[] stops;
        private int size;

        Way() {
            stops = new int[PARISHES];
            size = 0;
        }

        void choose(int from, int to, int number) {
            int middles = at(MIDDLES, number);
            size = stopsOf(middles);
            for (int place = size - 2; place > 0; place--) {
                put(stops, place, otherParish(from, to, middles % 10));
                middles = middles / 10;
            }
            put(stops, 0, from);
            put(stops, size - 1, to);
        }

        private static int stopsOf(int middles) {
            if (middles >= 100) {
                return 5;
            }
            if (middles >= 10) {
                return 4;
            }
            return middles >= 1 ? 3 : 2;
        }

        /** The first, second or third of the parishes that are neither of two. */
        private static int otherParish(int from, int to, int which) {
            int seen = 0;
            for (int parish = 0; parish < PARISHES; parish++) {
                if (parish != from && parish != to) {
                    seen++;
                    if (seen == which) {
                        return parish;
                    }
                }
            }
            return from;
        }

        boolean stands(Tables tables) {
            for (int i = 0; i < size - 1; i++) {
                if (!tables.has(at(stops, i), at(stops, i + 1))) {
                    return false;
                }
            }
            return true;
        }

        int number() {
            int number = 0;
            for (int i = 0; i < size; i++) {
                number = number * 10 + at(stops, i);
            }
            return number;
        }

        /** What is gained at all steps, each without its sign, together. */
        long roundedOff(Tables tables, int length, int rounding) {
            long here = length;
            long sum = 0L;
            for (int i = 0; i < size - 1; i++) {
                int up = tables.up(at(stops, i), at(stops, i + 1));
                int down = tables.up(at(stops, i + 1), at(stops, i));
                long there = turn(here, up, down, rounding);
                sum += Math.abs(gainOfTurn(here, there, up, down));
                here = there;
            }
            return sum;
        }

        /** The product of the ups of the way, or of its downs. */
        long product(Tables tables, boolean ofUps) {
            long product = 1L;
            for (int i = 0; i < size - 1; i++) {
                int a = at(stops, i);
                int b = at(stops, i + 1);
                product *= ofUps ? tables.up(a, b) : tables.up(b, a);
            }
            return product;
        }
    }

    /** The buffer, and how it is read: by what may come next. */
    private static final class Text {
        private static final int BROKEN = -1;
        private static final int PART = 0;
        private static final int TABLE_ARROW = 1;
        private static final int TABLE_TO = 2;
        private static final int TABLE_EQUALS = 3;
        private static final int UP = 4;
        private static final int UP_MORE = 5;
        private static final int SLASH = 6;
        private static final int DOWN = 7;
        private static final int DOWN_MORE = 8;
        private static final int DROP_FROM = 9;
        private static final int BOLT_NUMBER = 10;
        private static final int ARROW = 11;
        private static final int LAST_PARISH = 12;
        private static final int BOLT_PARISH = 13;
        private static final int BOLT_EQUALS = 14;
        private static final int LENGTH = 15;
        private static final int LENGTH_MORE_3 = 16;
        private static final int LENGTH_MORE_2 = 17;
        private static final int LENGTH_MORE_1 = 18;
        private static final int PART_END = 19;

        private final int[] codes;
        private int length;
        private int state;

        Text() {
            codes = new int[MOST_CODES];
            length = 0;
            state = PART;
        }

        void add(int code) {
            if (length < MOST_CODES) {
                put(codes, length, code);
                length++;
            }
        }

        int empty() {
            int before = length;
            length = 0;
            return before;
        }

        /** The index of the first error, or the length; the state tells what may come then. */
        int read() {
            state = PART;
            for (int i = 0; i < length; i++) {
                state = next(state, at(codes, i));
                if (state == BROKEN) {
                    return i;
                }
            }
            return length;
        }

        boolean isComplete() {
            return read() == length && mayEnd(state);
        }

        private static boolean mayEnd(int state) {
            switch (state) {
                case DOWN_MORE:
                case LENGTH_MORE_3:
                case LENGTH_MORE_2:
                case LENGTH_MORE_1:
                case PART_END:
                    return true;
                default:
                    return false;
            }
        }

        private static int next(int state, int code) {
            if (code == ';') {
                return mayEnd(state) ? PART : BROKEN;
            }
            switch (state) {
                case PART:
                    return nextOfPart(code);
                case TABLE_ARROW:
                    return code == '>' ? TABLE_TO : BROKEN;
                case TABLE_TO:
                    return isDigit(code, '0', '4') ? TABLE_EQUALS : BROKEN;
                case TABLE_EQUALS:
                    return code == '=' ? UP : BROKEN;
                case UP:
                    return isDigit(code, '1', '9') ? UP_MORE : BROKEN;
                case UP_MORE:
                    return isDigit(code, '0', '9') ? SLASH : code == '/' ? DOWN : BROKEN;
                case SLASH:
                    return code == '/' ? DOWN : BROKEN;
                case DOWN:
                    return isDigit(code, '1', '9') ? DOWN_MORE : BROKEN;
                case DOWN_MORE:
                    return isDigit(code, '0', '9') ? PART_END : BROKEN;
                case DROP_FROM:
                    return isDigit(code, '0', '4') ? ARROW : BROKEN;
                case BOLT_NUMBER:
                    return isDigit(code, '0', '7') ? ARROW : BROKEN;
                case ARROW:
                    return code == '>' ? LAST_PARISH : BROKEN;
                case LAST_PARISH:
                    return isDigit(code, '0', '4') ? PART_END : BROKEN;
                default:
                    return nextOfBolt(state, code);
            }
        }

        private static int nextOfPart(int code) {
            if (isDigit(code, '0', '4')) {
                return TABLE_ARROW;
            }
            switch (code) {
                case '-':
                    return DROP_FROM;
                case 'b':
                    return BOLT_PARISH;
                case 's':
                    return BOLT_NUMBER;
                default:
                    return BROKEN;
            }
        }

        private static int nextOfBolt(int state, int code) {
            switch (state) {
                case BOLT_PARISH:
                    return isDigit(code, '0', '4') ? BOLT_EQUALS : BROKEN;
                case BOLT_EQUALS:
                    return code == '=' ? LENGTH : BROKEN;
                case LENGTH:
                    return isDigit(code, '1', '9') ? LENGTH_MORE_3 : BROKEN;
                case LENGTH_MORE_3:
                    return isDigit(code, '0', '9') ? LENGTH_MORE_2 : BROKEN;
                case LENGTH_MORE_2:
                    return isDigit(code, '0', '9') ? LENGTH_MORE_1 : BROKEN;
                case LENGTH_MORE_1:
                    return isDigit(code, '0', '9') ? PART_END : BROKEN;
                default:
                    return BROKEN;
            }
        }

        private static boolean isDigit(int code, int lowest, int highest) {
            return code >= lowest && code <= highest;
        }

        /** Puts the numbers of the part that starts there into the row, and tells where it ends. */
        int readPart(int start, int[] numbers) {
            for (int i = 0; i < 4; i++) {
                put(numbers, i, 0);
            }
            int place = 0;
            int i = start;
            while (i < length && at(codes, i) != ';') {
                int code = at(codes, i);
                if (isDigit(code, '0', '9')) {
                    put(numbers, place, at(numbers, place) * 10 + code - '0');
                } else if (i > start) {
                    place++;
                }
                i++;
            }
            return i;
        }
    }
}
