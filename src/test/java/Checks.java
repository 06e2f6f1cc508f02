import java.lang.annotation.ElementType;
import java.lang.annotation.Retention;
import java.lang.annotation.RetentionPolicy;
import java.lang.annotation.Target;
import java.util.ArrayList;
import java.util.List;

/** What the tests by hand share: how an answer is looked at, and the objects that they are tried on. */
abstract class Checks {
    static final Class<?> INDEX = IndexOutOfBoundsException.class;
    static final Class<?> ARGUMENT = IllegalArgumentException.class;
    static final Class<?> STATE = IllegalStateException.class;
    static final int NONE = -1;
    static final int LOW = Integer.MIN_VALUE;
    static final int HIGH = Integer.MAX_VALUE;

    static int wrong = 0;

    /** The title of the part of the document that tests belong to. */
    @Retention(RetentionPolicy.RUNTIME)
    @Target(ElementType.TYPE)
    @interface Section {
        String value();
    }

    /** The sentence of the document that a test belongs to, as it stands there. */
    @Retention(RetentionPolicy.RUNTIME)
    @Target(ElementType.METHOD)
    @interface Says {
        String value();
    }

    interface Maker {
        ParishYards make();
    }

    /** A call whose answer does not matter. */
    interface Deed {
        void on(ParishYards x);
    }

    /** A call with one argument left open. */
    interface Open {
        void on(ParishYards x, int argument);
    }

    // ---- looking at answers

    static void due(String call, long got, long want) {
        if (got != want) {
            wrong++;
            System.out.println(call + " answered " + got + ", due is " + want);
        }
    }

    static void dueShare(String call, double got, double want) {
        if (Double.doubleToLongBits(got) != Double.doubleToLongBits(want)) {
            wrong++;
            System.out.println(call + " answered " + got + ", due is " + want);
        }
    }

    static void dueThrown(String call, ParishYards x, Class<?> want, Deed deed) {
        Class<?> got = null;
        try {
            deed.on(x);
        } catch (RuntimeException e) {
            got = e.getClass();
        }
        if (got != want) {
            wrong++;
            System.out.println(call + " threw " + got + ", due is " + want);
        }
    }

    /**
     * The call throws just this exception, and nothing that a later call shows is another thing than on an
     * object that had not this call: also not what undo() and restore() bring back.
     */
    static void refused(Maker made, Class<?> want, String call, Deed deed) {
        ParishYards x = made.make();
        dueThrown(call, x, want, deed);
        List<Long> got = shownLater(x);
        List<Long> without = shownLater(made.make());
        if (!got.equals(without)) {
            wrong++;
            System.out.println("after " + call + " later calls show " + got + ", due is " + without);
        }
    }

    /** All that is there: the state, its buffer, each saved state, and the snapshot. */
    private static List<Long> shownLater(ParishYards x) {
        List<Long> shown = new ArrayList<>();
        shown.add((long) x.firstError());
        shown.add(x.digest());
        while (x.count(17) > 0) {
            x.undo();
            shown.add(x.digest());
        }
        try {
            x.restore();
            shown.add(x.digest());
        } catch (IllegalStateException e) {
            shown.add(0L);
        }
        shown.add((long) x.clearBuffer());
        return shown;
    }

    /** The call saves one state more, and undo() brings it back. */
    static void undoable(Maker made, String call, Deed deed) {
        ParishYards x = made.make();
        int saved = x.count(17);
        long before = x.digest();
        deed.on(x);
        due("saved states after " + call, x.count(17), saved + 1);
        due("undo() after " + call, x.undo(), saved);
        due("the state undone after " + call, x.digest(), before);
    }

    /** The call neither changes anything that can be seen nor saves a state. */
    static void changesNothing(Maker made, String call, Deed deed) {
        ParishYards x = made.make();
        deed.on(x);
        due("what is there after " + call + " is the same", shownLater(x).equals(shownLater(made.make())) ? 1 : 0, 1);
    }

    /** Just inside both bounds the call throws nothing; just beyond them, and far, it is refused. */
    static void bounds(Maker made, Class<?> want, String call, Open open, int least, int most) {
        for (int inside : new int[] {least, least + 1, most - 1, most}) {
            dueThrown(call + " with " + inside, made.make(), null, x -> open.on(x, inside));
        }
        for (int beyond : new int[] {least - 1, most + 1, LOW, HIGH}) {
            refused(made, want, call + " with " + beyond, x -> open.on(x, beyond));
        }
    }

    /** With each parish that there is the call is refused. */
    static void refusedForEachParish(Maker made, Class<?> want, String call, Open open) {
        for (int parish = 0; parish < 5; parish++) {
            int one = parish;
            refused(made, want, call + " with " + parish, x -> open.on(x, one));
        }
    }

    // ---- texts

    static ParishYards type(ParishYards x, String text) {
        for (int i = 0; i < text.length(); i++) {
            x.append(text.charAt(i));
        }
        return x;
    }

    /** Does a text, and tells parts done times 100, part of the stop times 10, and its reason. */
    static int told(ParishYards x, String text) {
        int done = type(x, text).work();
        return x.stopped(1) == -1 ? done * 100 : done * 100 + x.stopped(0) * 10 + x.stopped(1);
    }

    static int firstErrorOf(String text) {
        return type(new ParishYards(), text).firstError();
    }

    // ---- objects to try calls on

    /** Any parish but this one. */
    static int other(int parish) {
        return parish == 0 ? 1 : 0;
    }

    /** Five parishes with all ten tables, all of them 1 to 1: 37 rings. */
    static ParishYards allTables() {
        ParishYards x = new ParishYards();
        for (int a = 0; a < 5; a++) {
            for (int b = a + 1; b < 5; b++) {
                x.table(a, b, 1, 1);
            }
        }
        return x;
    }

    /** The ten pairs of parishes, each told as a number. */
    static final int[] PAIRS = {1, 2, 3, 4, 12, 13, 14, 23, 24, 34};

    /** Those of the ten tables whose bit is in the set, each 1 to 1. */
    static ParishYards setOfTables(int set) {
        ParishYards x = new ParishYards();
        for (int i = 0; i < PAIRS.length; i++) {
            if ((set >> i & 1) == 1) {
                x.table(PAIRS[i] / 10, PAIRS[i] % 10, 1, 1);
            }
        }
        return x;
    }

    static boolean isInSet(int set, int a, int b) {
        for (int i = 0; i < PAIRS.length; i++) {
            if (PAIRS[i] == Math.min(a, b) * 10 + Math.max(a, b)) {
                return (set >> i & 1) == 1;
            }
        }
        return false;
    }

    static boolean isAmong(int parish, int[] stops, int size) {
        for (int i = 0; i < size; i++) {
            if (stops[i] == parish) {
                return true;
            }
        }
        return false;
    }

    /** Parishes as a number, as ring() tells them with 1. */
    static int number(int[] stops) {
        int number = 0;
        for (int stop : stops) {
            number = number * 10 + stop;
        }
        return number;
    }

    /** The tables 01, 12, 23, 34: each 1 to 1, and no ring. */
    static ParishYards chain() {
        ParishYards x = new ParishYards();
        for (int a = 0; a < 4; a++) {
            x.table(a, a + 1, 1, 1);
        }
        return x;
    }

    /** Ring 012 with 10005 / 10004: it gains, but less than a ten-thousandth. */
    static ParishYards hairy() {
        ParishYards x = new ParishYards();
        x.table(0, 1, 5, 2);
        x.table(1, 2, 23, 61);
        x.table(2, 0, 87, 82);
        return x;
    }

    /** Ring 012 with 98 / 99, which loses 102 of 10000, by setting 0. */
    static ParishYards losing() {
        return ringBy(102, 98, 99);
    }

    /** Ring 012 with 21 / 20: a gain of 500. */
    static ParishYards wide() {
        ParishYards x = new ParishYards();
        x.set(0, 500);
        x.table(0, 1, 99, 1);
        x.table(1, 2, 1, 99);
        x.table(2, 0, 21, 20);
        return x;
    }

    /** Ring 012 with a product of up / down, set with a bound. */
    static ParishYards ringBy(int bound, int up, int down) {
        ParishYards x = new ParishYards();
        x.set(0, bound);
        x.table(0, 1, 1, 1);
        x.table(1, 2, 1, 1);
        x.table(2, 0, up, down);
        return x;
    }

    /** The table of 0 and 1, and nothing else. */
    static ParishYards oneTable(int up, int down) {
        ParishYards x = new ParishYards();
        x.table(0, 1, up, down);
        return x;
    }

    /** Some of all there is, with a stop and a text in the buffer, but with one saved state and no snapshot. */
    static ParishYards small() {
        ParishYards x = new ParishYards();
        told(x, "0>1=3/2;1>2=2/3;0>2=2/2;b0=5;b1=9;s0>1;s0>1");
        return type(x, "b0=7");
    }

    /** Some of all there is: a ring, bolts, one that was sold, a stop, a buffer, a snapshot, six saved states. */
    static ParishYards busy() {
        ParishYards x = new ParishYards();
        x.set(0, 200);
        x.table(0, 1, 3, 2);
        x.table(1, 2, 4, 3);
        x.table(2, 0, 50, 99);
        x.table(3, 4, 1, 2);
        x.bolt(0, 5);
        x.keep();
        told(x, "s0>1;b3=7;-2>4;b0=1");
        x.send(1, 4);
        x.stick(1, 40);
        x.sell(0);
        x.set(2, 3);
        x.bolt(1, 40);
        return type(x, "0>1=5");
    }

    static ParishYards eightBolts() {
        ParishYards x = new ParishYards();
        for (int i = 0; i < 8; i++) {
            x.bolt(i % 5, 10 + i);
        }
        return x;
    }

    static ParishYards fullBuffer() {
        return type(new ParishYards(), "b0=1;".repeat(12));
    }

    /** The digest as the document tells it, out of the other answers. */
    static long digestOf(ParishYards x, String buffer) {
        long hash = 3851;
        for (int what = 0; what < 18; what++) {
            hash = 31 * hash + x.count(what);
        }
        for (int pair : PAIRS) {
            int a = pair / 10;
            int b = pair % 10;
            for (int what = 0; what < 3; what++) {
                hash = 31 * hash + x.tableOf(a, b, what);
            }
            hash = 31 * (31 * hash + x.mends(a, b, 0)) + x.mends(a, b, 1);
            hash = 31 * hash + x.bestWay(a, b, 100);
        }
        for (int i = 0; x.ring(i, 0) != -1; i++) {
            for (int what = 0; what < 4; what++) {
                hash = 31 * hash + x.ring(i, what);
            }
        }
        for (int i = 0; i < x.count(5); i++) {
            for (int what = 0; what < 4; what++) {
                hash = 31 * hash + x.boltOf(i, what);
            }
        }
        hash = 31 * (31 * hash + x.stopped(0)) + x.stopped(1);
        hash = 31 * (31 * hash + x.offBy(0, 1, 3, 2)) + x.turned(0, 1, 1000);
        hash = 31 * hash + Double.doubleToLongBits(x.trueShare());
        hash = 31 * hash + buffer.length();
        for (int i = 0; i < buffer.length(); i++) {
            hash = 31 * hash + buffer.charAt(i);
        }
        return hash;
    }
}
