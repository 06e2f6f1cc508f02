import java.util.Random;
import java.util.function.LongSupplier;

/** Random runs of 512 calls: each answer and each exception beside those of the model. */
public final class ModelTests {
    private static final int RUNS = 400;
    private static final int CALLS = 512;
    private static final int[] EDGES = {
        Integer.MIN_VALUE, -100000, -1, 5, 8, 100, 127, 501, 10000, 100000, Integer.MAX_VALUE
    };
    private static final String SIGNS = "01234567899>>>===///;;;--bbss x:";

    private final Random random;
    private final ParishYards yards = new ParishYards();
    private final Model model = new Model();
    private final int[] measures = new int[5];
    private final int wildness;
    private String typing = "";
    private String wrong;

    private ModelTests(int seed) {
        random = new Random(seed);
        for (int i = 0; i < 5; i++) {
            measures[i] = 1 + random.nextInt(seed % 2 == 0 ? 9 : 99);
        }
        wildness = 1 + random.nextInt(10);
    }

    public static void main(String[] args) {
        int failed = 0;
        for (int seed = 1; seed <= RUNS; seed++) {
            String wrong = new ModelTests(seed).run();
            if (wrong != null) {
                failed++;
                System.out.println("run " + seed + ": " + wrong);
            }
        }
        System.out.println("ModelTests: " + (RUNS - failed) + " passed, " + failed + " failed");
        if (failed != 0) {
            System.exit(1);
        }
    }

    private String run() {
        for (int call = 0; call < CALLS && wrong == null; call++) {
            if (random.nextInt(12) == 0) {
                both("digest()", yards::digest, model::digest);
            } else if (!typing.isEmpty() && random.nextInt(40) != 0) {
                int code = typing.charAt(0);
                typing = typing.substring(1);
                append(code);
            } else {
                any();
            }
        }
        both("digest()", yards::digest, model::digest);
        return wrong;
    }

    private static String answer(LongSupplier call) {
        try {
            return String.valueOf(call.getAsLong());
        } catch (RuntimeException e) {
            return e.getClass().getSimpleName();
        }
    }

    private void both(String call, LongSupplier program, LongSupplier due) {
        String got = answer(program);
        String want = answer(due);
        if (wrong == null && !got.equals(want)) {
            wrong = call + " answered " + got + ", due is " + want;
        }
        boolean threw = got.startsWith("I");
        if (threw && wrong == null && yards.digest() != model.digest()) {
            wrong = call + " threw, and the state is another one";
        }
    }

    private int number(int least, int most) {
        if (random.nextInt(60) == 0) {
            return EDGES[random.nextInt(EDGES.length)];
        }
        if (random.nextInt(30) == 0) {
            return random.nextBoolean() ? least - 1 : most + 1;
        }
        if (random.nextInt(10) == 0) {
            return random.nextBoolean() ? least : most;
        }
        return least + random.nextInt(most - least + 1);
    }

    private int measureOf(int parish) {
        return parish < 0 || parish > 4 ? 1 : measures[parish];
    }

    /** Up and down of a table: mostly of the measures, so that rings close, at times wild. */
    private int[] fraction(int from, int to) {
        if (random.nextInt(10) < wildness / 2) {
            return new int[] {number(1, 99), number(1, 99)};
        }
        int up = measureOf(to);
        int down = measureOf(from);
        int times = 1 + random.nextInt(3);
        if (up * times <= 99 && down * times <= 99) {
            up *= times;
            down *= times;
        }
        if (random.nextInt(6) == 0 && up < 99) {
            up++;
        }
        return new int[] {up, down};
    }

    private String part() {
        int a = random.nextInt(5);
        int b = random.nextInt(5);
        switch (random.nextInt(6)) {
            case 0: return "-" + a + ">" + b;
            case 1: return "b" + a + "=" + (1 + random.nextInt(random.nextBoolean() ? 30 : 9999));
            case 2: case 3: return "s" + random.nextInt(random.nextInt(5) == 0 ? 8 : 3) + ">" + b;
            default:
                int[] f = fraction(a, b);
                int up = Math.max(1, Math.min(99, f[0]));
                int down = Math.max(1, Math.min(99, f[1]));
                return a + ">" + b + "=" + up + "/" + down;
        }
    }

    private String text() {
        StringBuilder text = new StringBuilder(part());
        while (random.nextInt(5) != 0 && text.length() < 60) {
            text.append(';').append(part());
        }
        if (random.nextInt(3) == 0) {
            int i = random.nextInt(text.length());
            text.setCharAt(i, SIGNS.charAt(random.nextInt(SIGNS.length())));
        }
        if (random.nextInt(6) == 0) {
            text.setLength(random.nextInt(text.length()));
        }
        return text.toString();
    }

    private void append(int code) {
        both("append(" + code + ")", () -> yards.append(code), () -> model.append(code));
        if (typing.isEmpty()) {
            both("firstError()", yards::firstError, model::firstError);
            if (random.nextInt(5) != 0) {
                both("work()", yards::work, model::work);
            }
        }
    }

    private void any() {
        switch (random.nextInt(10)) {
            case 0: case 1: case 2: changeTables(); return;
            case 3: case 4: changeBolts(); return;
            case 5: texts(); return;
            case 6: undoOrKeep(); return;
            case 7: case 8: look(); return;
            default: would(); return;
        }
    }

    private void changeTables() {
        int from = number(0, 4);
        int to = number(0, 4);
        int kind = random.nextInt(12);
        if (kind == 0) {
            int inches = number(20, 60);
            both("stick", () -> yards.stick(from, inches), () -> model.stick(from, inches));
        } else if (kind == 1) {
            int setting = number(0, 2);
            int value = number(0, new int[] {500, 1, 4}[Math.floorMod(setting, 3)]);
            both("set", () -> yards.set(setting, value), () -> model.set(setting, value));
        } else if (kind <= 3) {
            both("drop", () -> yards.drop(from, to), () -> model.drop(from, to));
        } else {
            int[] f = fraction(from, to);
            both("table(" + from + ", " + to + ", " + f[0] + ", " + f[1] + ")",
                    () -> yards.table(from, to, f[0], f[1]), () -> model.table(from, to, f[0], f[1]));
        }
    }

    private void changeBolts() {
        int bolt = number(0, random.nextInt(4) == 0 ? 8 : 2);
        int parish = number(0, 4);
        int kind = random.nextInt(8);
        if (kind <= 1) {
            int length = number(1, random.nextBoolean() ? 40 : 9999);
            both("bolt", () -> yards.bolt(parish, length), () -> model.bolt(parish, length));
        } else if (kind == 2) {
            both("sell", () -> yards.sell(bolt), () -> model.sell(bolt));
        } else {
            both("send", () -> yards.send(bolt, parish), () -> model.send(bolt, parish));
        }
    }

    private void texts() {
        switch (random.nextInt(8)) {
            case 0: both("clearBuffer", yards::clearBuffer, model::clearBuffer); return;
            case 1: both("firstError", yards::firstError, model::firstError); return;
            case 2: both("work", yards::work, model::work); return;
            case 3: append(number(33, 126)); return;
            default:
                both("clearBuffer", yards::clearBuffer, model::clearBuffer);
                typing = text();
        }
    }

    private void undoOrKeep() {
        switch (random.nextInt(6)) {
            case 0: case 1: both("keep", yards::keep, model::keep); return;
            case 2: both("restore", yards::restore, model::restore); return;
            default: both("undo", yards::undo, model::undo);
        }
    }

    private void look() {
        int what = number(0, 3);
        switch (random.nextInt(5)) {
            case 0:
                int from = number(0, 4);
                int to = number(0, 4);
                both("tableOf", () -> yards.tableOf(from, to, what), () -> model.tableOf(from, to, what));
                return;
            case 1:
                int ring = number(0, 37);
                both("ring", () -> yards.ring(ring, what), () -> model.ring(ring, what));
                return;
            case 2:
                int bolt = number(0, 4);
                both("boltOf", () -> yards.boltOf(bolt, what), () -> model.boltOf(bolt, what));
                return;
            case 3:
                int stop = number(0, 1);
                both("stopped", () -> yards.stopped(stop), () -> model.stopped(stop));
                return;
            default:
                int count = number(0, 17);
                both("count", () -> yards.count(count), () -> model.count(count));
        }
    }

    private void would() {
        int from = number(0, 4);
        int to = number(0, 4);
        switch (random.nextInt(5)) {
            case 0:
                int[] f = fraction(from, to);
                both("offBy", () -> yards.offBy(from, to, f[0], f[1]), () -> model.offBy(from, to, f[0], f[1]));
                return;
            case 1:
                int length = number(0, 99999);
                both("turned", () -> yards.turned(from, to, length), () -> model.turned(from, to, length));
                return;
            case 2:
                int start = number(0, random.nextBoolean() ? 50 : 9999);
                both("bestWay(" + from + ", " + to + ", " + start + ")",
                        () -> yards.bestWay(from, to, start), () -> model.bestWay(from, to, start));
                return;
            case 3:
                int what = number(0, 1);
                both("mends", () -> yards.mends(from, to, what), () -> model.mends(from, to, what));
                return;
            default:
                both("trueShare", () -> Double.doubleToLongBits(yards.trueShare()),
                        () -> Double.doubleToLongBits(model.trueShare()));
        }
    }
}
