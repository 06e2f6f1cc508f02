import java.math.BigInteger;
import java.util.ArrayDeque;
import java.util.ArrayList;
import java.util.Arrays;
import java.util.Collections;
import java.util.List;
import java.util.regex.Matcher;
import java.util.regex.Pattern;

/**
 * The document once more, in the plainest Java and with the whole Java library: rings and ways by
 * search, fractions without bounds, texts by a regular expression. It shares no code with ParishYards.
 */
final class Model {
    private static final String WORK =
            "(?:[0-4]>[0-4]=[1-9][0-9]?/[1-9][0-9]?|-[0-4]>[0-4]|b[0-4]=[1-9][0-9]{0,3}|s[0-7]>[0-4])";
    private static final Pattern WORKS = Pattern.compile(WORK + "(?:;" + WORK + ")*");

    private static final class Bolt {
        int parish;
        int length;
        int gain;
        int sendings;

        Bolt(int parish, int length, int gain, int sendings) {
            this.parish = parish;
            this.length = length;
            this.gain = gain;
            this.sendings = sendings;
        }
    }

    private static final class State {
        int[] sticks = {36, 36, 36, 36, 36};
        int[] settings = {0, 0, 4};
        int[][][] tables = new int[5][5][];
        List<Bolt> bolts = new ArrayList<>();
        int gained;
        int sold;
        int stopPart = -1;
        int stopReason = -1;

        State copy() {
            State c = new State();
            c.sticks = sticks.clone();
            c.settings = settings.clone();
            for (int a = 0; a < 5; a++) {
                c.tables[a] = tables[a].clone();
            }
            for (Bolt b : bolts) {
                c.bolts.add(new Bolt(b.parish, b.length, b.gain, b.sendings));
            }
            c.gained = gained;
            c.sold = sold;
            c.stopPart = stopPart;
            c.stopReason = stopReason;
            return c;
        }
    }

    /** Thrown inside by a part that is not done, with its reason. */
    private static final class Refused extends RuntimeException {
        private static final long serialVersionUID = 1L;
        final int reason;

        Refused(int reason) {
            this.reason = reason;
        }
    }

    private State now = new State();
    private State kept;
    private final ArrayDeque<State> saved = new ArrayDeque<>();
    private final StringBuilder buffer = new StringBuilder();

    private static void parish(int parish) {
        if (parish < 0 || parish > 4) {
            throw new IndexOutOfBoundsException();
        }
    }

    private static void range(long value, long least, long most) {
        if (value < least || value > most) {
            throw new IllegalArgumentException();
        }
    }

    private void pair(int from, int to) {
        parish(from);
        parish(to);
        if (from == to) {
            throw new IllegalArgumentException();
        }
    }

    private void saveState() {
        saved.addLast(now.copy());
        if (saved.size() > 6) {
            saved.removeFirst();
        }
    }

    // ---- rings

    private static void extend(State s, List<Integer> chain, int size, List<List<Integer>> found) {
        int first = chain.get(0);
        int last = chain.get(chain.size() - 1);
        if (chain.size() == size) {
            if (s.tables[last][first] != null && chain.get(1) < last) {
                found.add(new ArrayList<>(chain));
            }
            return;
        }
        for (int next = first + 1; next < 5; next++) {
            if (!chain.contains(next) && s.tables[last][next] != null) {
                chain.add(next);
                extend(s, chain, size, found);
                chain.remove(chain.size() - 1);
            }
        }
    }

    private static List<List<Integer>> rings(State s) {
        List<List<Integer>> found = new ArrayList<>();
        for (int size = 3; size <= 5; size++) {
            for (int first = 0; first < 5; first++) {
                extend(s, new ArrayList<>(List.of(first)), size, found);
            }
        }
        return found;
    }

    private static boolean hasPair(List<Integer> ring, int a, int b) {
        for (int i = 0; i < ring.size(); i++) {
            int p = ring.get(i);
            int q = ring.get((i + 1) % ring.size());
            if (p == a && q == b || p == b && q == a) {
                return true;
            }
        }
        return false;
    }

    private static BigInteger product(State s, List<Integer> stops, boolean closed, int upOrDown) {
        BigInteger product = BigInteger.ONE;
        int steps = closed ? stops.size() : stops.size() - 1;
        for (int i = 0; i < steps; i++) {
            int[] table = s.tables[stops.get(i)][stops.get((i + 1) % stops.size())];
            product = product.multiply(BigInteger.valueOf(table[upOrDown]));
        }
        return product;
    }

    private static BigInteger floor(BigInteger a, BigInteger b) {
        BigInteger[] both = a.divideAndRemainder(b);
        return both[1].signum() < 0 ? both[0].subtract(BigInteger.ONE) : both[0];
    }

    private static BigInteger gain(State s, List<Integer> ring) {
        BigInteger up = product(s, ring, true, 0);
        BigInteger down = product(s, ring, true, 1);
        return floor(up.subtract(down).multiply(BigInteger.valueOf(10000)), down);
    }

    private static boolean off(State s, List<Integer> ring) {
        return gain(s, ring).abs().compareTo(BigInteger.valueOf(s.settings[0])) > 0;
    }

    private static int digits(List<Integer> stops) {
        int number = 0;
        for (int stop : stops) {
            number = number * 10 + stop;
        }
        return number;
    }

    private static State withTable(State s, int from, int to, int up, int down) {
        State would = s.copy();
        would.tables[from][to] = new int[] {up, down};
        would.tables[to][from] = new int[] {down, up};
        return would;
    }

    private static int firstOff(State s, int from, int to, int up, int down) {
        State would = withTable(s, from, to, up, down);
        for (List<Integer> ring : rings(would)) {
            if (hasPair(ring, from, to) && off(would, ring)) {
                return digits(ring);
            }
        }
        return 0;
    }

    // ---- turning

    private static BigInteger turn(State s, int from, int to, BigInteger length) {
        BigInteger up = BigInteger.valueOf(s.tables[from][to][0]);
        BigInteger down = BigInteger.valueOf(s.tables[from][to][1]);
        BigInteger two = BigInteger.valueOf(2);
        if (s.settings[1] == 1) {
            return floor(length.multiply(up), down);
        }
        return floor(length.multiply(up).multiply(two).add(down), down.multiply(two));
    }

    private static BigInteger gainOf(State s, int from, int to, BigInteger length, BigInteger there) {
        BigInteger up = BigInteger.valueOf(s.tables[from][to][0]);
        BigInteger down = BigInteger.valueOf(s.tables[from][to][1]);
        return floor(there.multiply(down).subtract(length.multiply(up)).multiply(BigInteger.valueOf(1000)), down);
    }

    // ---- the works

    private static void doTable(State s, int from, int to, int up, int down) {
        if (from == to) {
            throw new Refused(4);
        }
        if (firstOff(s, from, to, up, down) != 0) {
            throw new Refused(5);
        }
        s.tables[from][to] = new int[] {up, down};
        s.tables[to][from] = new int[] {down, up};
    }

    private static void doDrop(State s, int from, int to) {
        if (from == to) {
            throw new Refused(4);
        }
        if (s.tables[from][to] == null) {
            throw new Refused(6);
        }
        s.tables[from][to] = null;
        s.tables[to][from] = null;
    }

    private static void doBolt(State s, int parish, int length) {
        if (s.bolts.size() == 8) {
            throw new Refused(8);
        }
        s.bolts.add(new Bolt(parish, length, 0, 0));
    }

    private static void doSend(State s, int number, int parish) {
        if (number >= s.bolts.size()) {
            throw new Refused(7);
        }
        Bolt bolt = s.bolts.get(number);
        if (bolt.parish == parish) {
            throw new Refused(1);
        }
        if (s.tables[bolt.parish][parish] == null) {
            throw new Refused(2);
        }
        BigInteger length = BigInteger.valueOf(bolt.length);
        BigInteger there = turn(s, bolt.parish, parish, length);
        if (there.compareTo(BigInteger.valueOf(99999)) > 0) {
            throw new Refused(3);
        }
        int gain = gainOf(s, bolt.parish, parish, length, there).intValueExact();
        bolt.parish = parish;
        bolt.length = there.intValueExact();
        bolt.gain += gain;
        bolt.sendings++;
        s.gained += gain;
    }

    private interface Deed {
        void on(State s);
    }

    private void undoable(Deed deed) {
        State would = now.copy();
        try {
            deed.on(would);
        } catch (Refused refused) {
            throw new IllegalStateException();
        }
        saveState();
        now = would;
    }

    int stick(int parish, int inches) {
        parish(parish);
        range(inches, 20, 60);
        int before = now.sticks[parish];
        undoable(s -> s.sticks[parish] = inches);
        return before;
    }

    int table(int from, int to, int up, int down) {
        pair(from, to);
        range(up, 1, 99);
        range(down, 1, 99);
        undoable(s -> doTable(s, from, to, up, down));
        return rings(now).size();
    }

    int drop(int from, int to) {
        parish(from);
        parish(to);
        undoable(s -> doDrop(s, from, to));
        return rings(now).size();
    }

    int set(int setting, int value) {
        if (setting < 0 || setting > 2) {
            throw new IndexOutOfBoundsException();
        }
        range(value, new int[] {0, 0, 1}[setting], new int[] {500, 1, 4}[setting]);
        int before = now.settings[setting];
        undoable(s -> s.settings[setting] = value);
        return before;
    }

    int bolt(int parish, int length) {
        parish(parish);
        range(length, 1, 9999);
        undoable(s -> doBolt(s, parish, length));
        return now.bolts.size() - 1;
    }

    private void boltNumber(int bolt) {
        if (bolt < 0 || bolt >= now.bolts.size()) {
            throw new IndexOutOfBoundsException();
        }
    }

    int send(int bolt, int parish) {
        boltNumber(bolt);
        parish(parish);
        undoable(s -> doSend(s, bolt, parish));
        return now.bolts.get(bolt).length;
    }

    int sell(int bolt) {
        boltNumber(bolt);
        int sticks = now.bolts.get(bolt).length / now.sticks[now.bolts.get(bolt).parish];
        undoable(s -> {
            s.bolts.remove(bolt);
            s.sold++;
        });
        return sticks;
    }

    int append(int code) {
        range(code, 33, 126);
        if (buffer.length() == 60) {
            throw new IllegalStateException();
        }
        buffer.append((char) code);
        return buffer.length();
    }

    int clearBuffer() {
        int length = buffer.length();
        buffer.setLength(0);
        return length;
    }

    /** A text begins works if the expression matches it, or ran out of signs while it still could. */
    int firstError() {
        for (int length = 1; length <= buffer.length(); length++) {
            Matcher matcher = WORKS.matcher(buffer.substring(0, length));
            if (!matcher.matches() && !matcher.hitEnd()) {
                return length - 1;
            }
        }
        return buffer.length();
    }

    private static void doPart(State s, String part) {
        String[] words = part.replaceAll("[^0-9]+", " ").trim().split(" ");
        int[] n = Arrays.stream(words).mapToInt(Integer::parseInt).toArray();
        switch (part.charAt(0)) {
            case '-' -> doDrop(s, n[0], n[1]);
            case 'b' -> doBolt(s, n[0], n[1]);
            case 's' -> doSend(s, n[0], n[1]);
            default -> doTable(s, n[0], n[1], n[2], n[3]);
        }
    }

    int work() {
        if (!WORKS.matcher(buffer).matches()) {
            throw new IllegalArgumentException();
        }
        saveState();
        now.stopPart = -1;
        now.stopReason = -1;
        int done = 0;
        try {
            for (String part : buffer.toString().split(";")) {
                doPart(now, part);
                done++;
            }
        } catch (Refused refused) {
            now.stopPart = done;
            now.stopReason = refused.reason;
        }
        buffer.setLength(0);
        return done;
    }

    int stopped(int what) {
        range(what, 0, 1);
        return what == 0 ? now.stopPart : now.stopReason;
    }

    int undo() {
        if (saved.isEmpty()) {
            throw new IllegalStateException();
        }
        now = saved.removeLast();
        return saved.size();
    }

    int keep() {
        kept = now.copy();
        return count(0);
    }

    int restore() {
        if (kept == null) {
            throw new IllegalStateException();
        }
        saveState();
        now = kept.copy();
        return count(0);
    }

    // ---- looks

    int tableOf(int from, int to, int what) {
        pair(from, to);
        range(what, 0, 2);
        if (what == 2) {
            return (int) rings(now).stream().filter(r -> hasPair(r, from, to)).count();
        }
        return now.tables[from][to] == null ? -1 : now.tables[from][to][what];
    }

    int ring(int ring, int what) {
        range(ring, 0, Integer.MAX_VALUE);
        range(what, 0, 3);
        List<List<Integer>> all = rings(now);
        if (ring >= all.size()) {
            return -1;
        }
        List<Integer> one = all.get(ring);
        if (what == 0) {
            return one.size();
        }
        if (what == 1) {
            return digits(one);
        }
        if (what == 3) {
            return off(now, one) ? 1 : 0;
        }
        BigInteger told = gain(now, one).add(BigInteger.valueOf(1000000));
        return told.max(BigInteger.ZERO).min(BigInteger.valueOf(2000000000)).intValueExact();
    }

    int boltOf(int bolt, int what) {
        boltNumber(bolt);
        range(what, 0, 3);
        Bolt b = now.bolts.get(bolt);
        return new int[] {b.parish, b.length, b.gain + 1000000, b.sendings}[what];
    }

    private boolean sound() {
        return rings(now).stream().allMatch(r -> product(now, r, true, 0).equals(product(now, r, true, 1)));
    }

    private int tables() {
        int sum = 0;
        for (int a = 0; a < 5; a++) {
            for (int b = 0; b < a; b++) {
                sum += now.tables[a][b] == null ? 0 : 1;
            }
        }
        return sum;
    }

    int count(int what) {
        range(what, 0, 17);
        switch (what) {
            case 0: return tables();
            case 1: return rings(now).size();
            case 2: return (int) rings(now).stream().filter(r -> off(now, r)).count();
            case 3: case 4: return sound() ? 1 : 0;
            case 5: return now.bolts.size();
            case 6: return now.bolts.stream().mapToInt(b -> b.length).sum();
            case 7: return now.gained + 10000000;
            case 8: return now.sold;
            case 9: case 10: case 11: return now.settings[what - 9];
            case 17: return saved.size();
            default: return now.sticks[what - 12];
        }
    }

    // ---- what would be

    int offBy(int from, int to, int up, int down) {
        pair(from, to);
        range(up, 1, 99);
        range(down, 1, 99);
        return firstOff(now, from, to, up, down);
    }

    int turned(int from, int to, int length) {
        pair(from, to);
        range(length, 0, 99999);
        return now.tables[from][to] == null ? -1
                : turn(now, from, to, BigInteger.valueOf(length)).intValueExact();
    }

    private void ways(List<Integer> chain, int to, List<List<Integer>> found) {
        int last = chain.get(chain.size() - 1);
        if (last == to) {
            found.add(new ArrayList<>(chain));
            return;
        }
        for (int next = 0; next < 5; next++) {
            if (!chain.contains(next) && now.tables[last][next] != null) {
                chain.add(next);
                ways(chain, to, found);
                chain.remove(chain.size() - 1);
            }
        }
    }

    /** All ways, those of fewer steps first, then by the numbers of parishes. */
    private List<List<Integer>> ways(int from, int to) {
        List<List<Integer>> found = new ArrayList<>();
        ways(new ArrayList<>(List.of(from)), to, found);
        Collections.sort(found, (a, b) -> a.size() != b.size() ? a.size() - b.size() : digits(a) - digits(b));
        return found;
    }

    private BigInteger lost(List<Integer> way, int length) {
        BigInteger here = BigInteger.valueOf(length);
        BigInteger sum = BigInteger.ZERO;
        for (int i = 0; i + 1 < way.size(); i++) {
            BigInteger there = turn(now, way.get(i), way.get(i + 1), here);
            sum = sum.add(gainOf(now, way.get(i), way.get(i + 1), here, there).abs());
            here = there;
        }
        return sum;
    }

    int bestWay(int from, int to, int length) {
        pair(from, to);
        range(length, 0, 9999);
        List<Integer> best = null;
        for (List<Integer> way : ways(from, to)) {
            if (way.size() - 1 <= now.settings[2]
                    && (best == null || lost(way, length).compareTo(lost(best, length)) < 0)) {
                best = way;
            }
        }
        return best == null ? -1 : 100000 + digits(best);
    }

    int mends(int from, int to, int what) {
        pair(from, to);
        range(what, 0, 1);
        for (List<Integer> way : ways(from, to)) {
            if (way.size() > 2) {
                BigInteger up = product(now, way, false, 0);
                BigInteger down = product(now, way, false, 1);
                BigInteger divisor = up.gcd(down);
                int most = up.max(down).divide(divisor).min(BigInteger.valueOf(100)).intValueExact();
                return most > 99 ? -1 : (what == 0 ? up : down).divide(divisor).intValueExact();
            }
        }
        return -1;
    }

    double trueShare() {
        int all = rings(now).size();
        return all == 0 ? 1.0 : (double) (all - count(2)) / all;
    }

    long digest() {
        List<Long> values = new ArrayList<>();
        for (int what = 0; what <= 17; what++) {
            values.add((long) count(what));
        }
        for (int a = 0; a < 5; a++) {
            for (int b = a + 1; b < 5; b++) {
                values.add((long) tableOf(a, b, 0));
                values.add((long) tableOf(a, b, 1));
                values.add((long) tableOf(a, b, 2));
                values.add((long) mends(a, b, 0));
                values.add((long) mends(a, b, 1));
                values.add((long) bestWay(a, b, 100));
            }
        }
        int all = rings(now).size();
        for (int i = 0; i < all; i++) {
            for (int what = 0; what < 4; what++) {
                values.add((long) ring(i, what));
            }
        }
        for (int i = 0; i < now.bolts.size(); i++) {
            for (int what = 0; what < 4; what++) {
                values.add((long) boltOf(i, what));
            }
        }
        values.add((long) stopped(0));
        values.add((long) stopped(1));
        values.add((long) offBy(0, 1, 3, 2));
        values.add((long) turned(0, 1, 1000));
        values.add(Double.doubleToLongBits(trueShare()));
        values.add((long) buffer.length());
        buffer.chars().forEach(c -> values.add((long) c));
        long hash = 3851;
        for (long v : values) {
            hash = 31 * hash + v;
        }
        return hash;
    }
}
