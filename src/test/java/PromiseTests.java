import java.util.ArrayList;
import java.util.List;

/** For each promise of the document its ordinary inputs, its edges and its wrong inputs, by hand. */
public final class PromiseTests extends Checks {
    private interface Test {
        void run();
    }

    public static void main(String[] args) {
        Test[] tests = {
            PromiseTests::promise1, PromiseTests::promise2, PromiseTests::promise3,
            PromiseTests::promise4, PromiseTests::promise5, PromiseTests::promise6,
            PromiseTests::promise7, PromiseTests::promise8, PromiseTests::promise9,
            PromiseTests::promise10, PromiseTests::promise11, PromiseTests::promise12,
            PromiseTests::promise13, PromiseTests::promise14, PromiseTests::promise15,
            PromiseTests::promise16, PromiseTests::promise17, PromiseTests::promise18,
            PromiseTests::promise19, PromiseTests::promise20, PromiseTests::promise21,
            PromiseTests::promise22, PromiseTests::promise23, PromiseTests::promise24,
            PromiseTests::promise25, PromiseTests::promise26
        };
        int failed = 0;
        for (int i = 0; i < tests.length; i++) {
            wrong = 0;
            try {
                tests[i].run();
            } catch (RuntimeException e) {
                due("no exception, but " + e, 1, 0);
            }
            if (wrong != 0) {
                failed++;
                System.out.println("promise " + (i + 1) + ": " + wrong + " answers are not as due");
            }
        }
        System.out.println("PromiseTests: " + (tests.length - failed) + " passed, " + failed + " failed");
        if (failed != 0) {
            System.exit(1);
        }
    }

    /** The call throws just this exception, and the state is as before. */
    private static void throwsDue(ParishYards x, Class<?> want, String call, Test test) {
        long before = x.digest();
        dueThrown(call, x, want, y -> test.run());
        due("the state after " + call, x.digest(), before);
    }

    private static void promise1() {
        ParishYards x = new ParishYards();
        int[] counts = {0, 0, 0, 1, 1, 0, 0, 10000000, 0, 0, 0, 4, 36, 36, 36, 36, 36, 0};
        for (int what = 0; what < counts.length; what++) {
            due("count(" + what + ")", x.count(what), counts[what]);
        }
        for (int a = 0; a < 5; a++) {
            for (int b = 0; b < 5; b++) {
                if (a != b) {
                    due("tableOf", x.tableOf(a, b, 0), -1);
                }
            }
        }
        due("ring(0, 0)", x.ring(0, 0), -1);
        due("stopped(0)", x.stopped(0), -1);
        due("stopped(1)", x.stopped(1), -1);
        due("clearBuffer()", x.clearBuffer(), 0);
        throwsDue(x, STATE, "undo()", x::undo);
        throwsDue(x, STATE, "restore()", x::restore);
        throwsDue(x, INDEX, "boltOf(0, 0)", () -> x.boltOf(0, 0));
        due("NONE", ParishYards.NONE, -1);
        ParishYards other = new ParishYards();
        other.stick(0, 20);
        due("another object's stick", x.count(12), 36);
    }

    private static void promise2() {
        ParishYards x = new ParishYards();
        due("stick(0, 20)", x.stick(0, 20), 36);
        due("stick(4, 60)", x.stick(4, 60), 36);
        due("stick(4, 60)", x.stick(4, 60), 60);
        due("count(12)", x.count(12), 20);
        due("count(13)", x.count(13), 36);
        due("count(16)", x.count(16), 60);
        due("saved states, also where nothing is changed", x.count(17), 3);
        throwsDue(x, INDEX, "stick(-1, 36)", () -> x.stick(-1, 36));
        throwsDue(x, INDEX, "stick(5, 36)", () -> x.stick(5, 36));
        throwsDue(x, INDEX, "stick(5, 0)", () -> x.stick(5, 0));
        throwsDue(x, INDEX, "stick(low, low)", () -> x.stick(LOW, LOW));
        throwsDue(x, INDEX, "stick(high, 36)", () -> x.stick(HIGH, 36));
        throwsDue(x, ARGUMENT, "stick(0, 19)", () -> x.stick(0, 19));
        throwsDue(x, ARGUMENT, "stick(0, 61)", () -> x.stick(0, 61));
        throwsDue(x, ARGUMENT, "stick(4, high)", () -> x.stick(4, HIGH));
        x.undo();
        x.undo();
        due("count(16) undone", x.count(16), 36);
    }

    private static void promise3() {
        ParishYards x = new ParishYards();
        due("table(0, 1, 3, 2)", x.table(0, 1, 3, 2), 0);
        due("table(2, 1, 3, 4)", x.table(2, 1, 3, 4), 0);
        throwsDue(x, STATE, "table(2, 0, 1, 3)", () -> x.table(2, 0, 1, 3));
        due("table(2, 0, 2, 4)", x.table(2, 0, 2, 4), 1);
        due("its up stays so", x.tableOf(2, 0, 0), 2);
        due("its down stays so", x.tableOf(2, 0, 1), 4);
        due("the other way around", x.tableOf(0, 2, 0), 4);
        due("in place of one", x.table(0, 2, 2, 1), 1);
        due("tables", x.count(0), 3);
        due("saved states", x.count(17), 4);
        throwsDue(x, STATE, "table(0, 1, 3, 1)", () -> x.table(0, 1, 3, 1));
        throwsDue(x, INDEX, "table(5, 0, 1, 1)", () -> x.table(5, 0, 1, 1));
        throwsDue(x, INDEX, "table(0, -1, 1, 1)", () -> x.table(0, -1, 1, 1));
        throwsDue(x, INDEX, "table(5, 5, 0, 0)", () -> x.table(5, 5, 0, 0));
        throwsDue(x, INDEX, "table(low, high, 1, 1)", () -> x.table(LOW, HIGH, 1, 1));
        throwsDue(x, ARGUMENT, "table(0, 0, 1, 1)", () -> x.table(0, 0, 1, 1));
        throwsDue(x, ARGUMENT, "table(0, 1, 0, 1)", () -> x.table(0, 1, 0, 1));
        throwsDue(x, ARGUMENT, "table(0, 1, 100, 1)", () -> x.table(0, 1, 100, 1));
        throwsDue(x, ARGUMENT, "table(0, 1, 1, 0)", () -> x.table(0, 1, 1, 0));
        throwsDue(x, ARGUMENT, "table(0, 1, 1, 100)", () -> x.table(0, 1, 1, 100));
        due("table(3, 4, 99, 1)", x.table(3, 4, 99, 1), 1);
        due("table(3, 4, 1, 99)", x.table(3, 4, 1, 99), 1);
        boundOfTables();
        due("all tables", allTables().count(1), 37);
        ParishYards y = losing();
        y.set(0, 0);
        due("a table of no ring, while another ring is off", y.table(3, 4, 7, 9), 1);
        due("a table that mends an off ring", y.table(0, 2, 1, 1), 1);
    }

    private static void boundOfTables() {
        ParishYards x = new ParishYards();
        x.set(0, 101);
        x.table(0, 1, 1, 1);
        x.table(1, 2, 1, 1);
        throwsDue(x, STATE, "a loss of 102 with 101", () -> x.table(2, 0, 98, 99));
        throwsDue(x, STATE, "a gain of 102 with 101", () -> x.table(2, 0, 99, 98));
        x.set(0, 102);
        due("a loss of 102 with 102", x.table(2, 0, 98, 99), 1);
        due("a gain of 102 with 102", x.table(2, 0, 99, 98), 1);
        x.set(0, 500);
        due("a loss of 500 with 500", x.table(2, 0, 19, 20), 1);
        due("a gain of 500 with 500", x.table(2, 0, 21, 20), 1);
        x.set(0, 499);
        throwsDue(x, STATE, "a loss of 500 with 499", () -> x.table(2, 0, 19, 20));
        throwsDue(x, STATE, "a gain of 500 with 499", () -> x.table(2, 0, 21, 20));
    }

    private static void promise4() {
        ParishYards x = allTables();
        due("drop(4, 0)", x.drop(4, 0), 22);
        due("drop(0, 1)", x.drop(0, 1), 12);
        due("tables", x.count(0), 8);
        due("tableOf(1, 0, 0)", x.tableOf(1, 0, 0), -1);
        due("tableOf(1, 0, 1)", x.tableOf(1, 0, 1), -1);
        due("saved states", x.count(17), 6);
        throwsDue(x, STATE, "drop(0, 1)", () -> x.drop(0, 1));
        throwsDue(x, STATE, "drop(1, 0)", () -> x.drop(1, 0));
        throwsDue(x, STATE, "drop(2, 2)", () -> x.drop(2, 2));
        throwsDue(x, INDEX, "drop(2, 5)", () -> x.drop(2, 5));
        throwsDue(x, INDEX, "drop(-1, 2)", () -> x.drop(-1, 2));
        throwsDue(x, INDEX, "drop(5, 5)", () -> x.drop(5, 5));
        x.undo();
        due("rings undone", x.count(1), 22);
        due("table undone", x.tableOf(0, 1, 0), 1);
    }

    private static void promise5() {
        ParishYards x = losing();
        due("set(0, 500)", x.set(0, 500), 102);
        due("set(0, 0)", x.set(0, 0), 500);
        due("the table stays", x.tableOf(2, 0, 0), 98);
        due("rings that are off", x.count(2), 1);
        due("set(1, 1)", x.set(1, 1), 0);
        due("set(1, 0)", x.set(1, 0), 1);
        due("set(2, 1)", x.set(2, 1), 4);
        due("set(2, 4)", x.set(2, 4), 1);
        due("count(11)", x.count(11), 4);
        throwsDue(x, INDEX, "set(-1, 1)", () -> x.set(-1, 1));
        throwsDue(x, INDEX, "set(3, 1)", () -> x.set(3, 1));
        throwsDue(x, INDEX, "set(3, -1)", () -> x.set(3, -1));
        throwsDue(x, INDEX, "set(high, 1)", () -> x.set(HIGH, 1));
        throwsDue(x, ARGUMENT, "set(0, -1)", () -> x.set(0, -1));
        throwsDue(x, ARGUMENT, "set(0, 501)", () -> x.set(0, 501));
        throwsDue(x, ARGUMENT, "set(1, -1)", () -> x.set(1, -1));
        throwsDue(x, ARGUMENT, "set(1, 2)", () -> x.set(1, 2));
        throwsDue(x, ARGUMENT, "set(2, 0)", () -> x.set(2, 0));
        throwsDue(x, ARGUMENT, "set(2, 5)", () -> x.set(2, 5));
        x.undo();
        due("count(11) undone", x.count(11), 1);
        due("saved states", x.count(17), 5);
    }

    private static void promise6() {
        ParishYards x = new ParishYards();
        due("bolt(4, 1)", x.bolt(4, 1), 0);
        due("bolt(0, 9999)", x.bolt(0, 9999), 1);
        due("boltOf(1, 0)", x.boltOf(1, 0), 0);
        due("boltOf(1, 1)", x.boltOf(1, 1), 9999);
        due("boltOf(1, 2)", x.boltOf(1, 2), 1000000);
        due("boltOf(1, 3)", x.boltOf(1, 3), 0);
        throwsDue(x, INDEX, "bolt(5, 1)", () -> x.bolt(5, 1));
        throwsDue(x, INDEX, "bolt(-1, 0)", () -> x.bolt(-1, 0));
        throwsDue(x, ARGUMENT, "bolt(0, 0)", () -> x.bolt(0, 0));
        throwsDue(x, ARGUMENT, "bolt(0, 10000)", () -> x.bolt(0, 10000));
        for (int i = 2; i < 8; i++) {
            due("bolt(1, 5)", x.bolt(1, 5), i);
        }
        throwsDue(x, STATE, "a ninth bolt", () -> x.bolt(1, 5));
        throwsDue(x, ARGUMENT, "a ninth bolt of length 0", () -> x.bolt(1, 0));
        throwsDue(x, INDEX, "a ninth bolt of no parish", () -> x.bolt(5, 5));
        x.undo();
        due("bolts undone", x.count(5), 7);
        x.bolt(2, 6);
        x.sell(0);
        due("a bolt after one was sold", x.bolt(3, 7), 7);
        due("a row used again", x.boltOf(7, 1), 7);
        ParishYards y = new ParishYards();
        y.table(0, 1, 1, 2);
        y.bolt(0, 5);
        y.send(0, 1);
        y.sell(0);
        y.bolt(0, 6);
        due("what a bolt before it gained", y.boltOf(0, 2), 1000000);
        due("how often a bolt before it was sent", y.boltOf(0, 3), 0);
    }

    private static void promise7() {
        ParishYards x = new ParishYards();
        x.table(0, 1, 3, 2);
        x.table(1, 2, 1, 3);
        x.bolt(0, 5);
        due("send(0, 1): 7.5", x.send(0, 1), 8);
        due("gained", x.boltOf(0, 2), 1000500);
        due("parish", x.boltOf(0, 0), 1);
        due("send(0, 2): 2.67", x.send(0, 2), 3);
        due("gained", x.boltOf(0, 2), 1000833);
        due("sent", x.boltOf(0, 3), 2);
        due("send(0, 1): 9", x.send(0, 1), 9);
        due("gained by all", x.count(7), 10000833);
        x.set(1, 1);
        due("send(0, 0): 6", x.send(0, 0), 6);
        due("send(0, 1): 9", x.send(0, 1), 9);
        x.bolt(1, 2);
        due("send(1, 2): 0.67 down", x.send(1, 2), 0);
        due("gained: -666.67 down", x.boltOf(1, 2), 999333);
        x.set(1, 0);
        x.bolt(1, 1);
        due("send(2, 2): 0.33", x.send(2, 2), 0);
        due("gained: -333.33 down", x.boltOf(2, 2), 999666);
        due("gained by all", x.count(7), 10000833 - 667 - 334);
        due("send(2, 1): a length of 0", x.send(2, 1), 0);
        x.bolt(1, 4);
        due("send(3, 2): 1.33", x.send(3, 2), 1);
        due("gained: -333.33 down", x.boltOf(3, 2), 999666);
        throwsDue(x, INDEX, "send(4, 0)", () -> x.send(4, 0));
        throwsDue(x, INDEX, "send(-1, 0)", () -> x.send(-1, 0));
        throwsDue(x, INDEX, "send(0, 5)", () -> x.send(0, 5));
        throwsDue(x, INDEX, "send(0, -1)", () -> x.send(0, -1));
        throwsDue(x, STATE, "send where it lies", () -> x.send(0, 1));
        throwsDue(x, STATE, "send without a table", () -> x.send(0, 3));
        x.undo();
        due("parish undone", x.boltOf(3, 0), 1);
        due("length undone", x.boltOf(3, 1), 4);
        due("sent undone", x.boltOf(3, 3), 0);
        due("gained by all undone", x.count(7), 10000833 - 667 - 334);
        tooLong();
    }

    private static void tooLong() {
        ParishYards x = new ParishYards();
        x.table(0, 1, 99, 1);
        x.table(0, 2, 61, 3);
        x.table(0, 3, 41, 1);
        x.table(0, 4, 50, 1);
        x.bolt(0, 1011);
        throwsDue(x, STATE, "100089", () -> x.send(0, 1));
        x.bolt(0, 2000);
        throwsDue(x, STATE, "100000", () -> x.send(1, 4));
        x.bolt(0, 2439);
        due("99999", x.send(2, 3), 99999);
        x.bolt(0, 4918);
        due("99999.33", x.send(3, 2), 99999);
        due("gained", x.boltOf(3, 2), 999666);
        x.table(0, 4, 73, 7);
        x.bolt(0, 9589);
        throwsDue(x, STATE, "99999.57", () -> x.send(4, 4));
        x.set(1, 1);
        due("99999.57 down", x.send(4, 4), 99999);
        due("gained", x.boltOf(4, 2), 999428);
    }

    private static void promise8() {
        ParishYards x = new ParishYards();
        x.table(0, 1, 1, 3);
        x.bolt(0, 71);
        x.bolt(1, 72);
        x.bolt(2, 1000);
        due("send(0, 1): 23.67", x.send(0, 1), 24);
        x.stick(2, 30);
        due("sell(2): 33.3 sticks", x.sell(2), 33);
        x.bolt(3, 36);
        due("sell(0): 24 of 36", x.sell(0), 0);
        due("bolts", x.count(5), 2);
        due("those behind it", x.boltOf(0, 1), 72);
        due("those behind it", x.boltOf(1, 1), 36);
        due("sold", x.count(8), 2);
        due("what sold ones gained", x.count(7), 10000333);
        throwsDue(x, INDEX, "sell(2)", () -> x.sell(2));
        throwsDue(x, INDEX, "sell(-1)", () -> x.sell(-1));
        throwsDue(x, INDEX, "sell(high)", () -> x.sell(HIGH));
        due("sell(0)", x.sell(0), 2);
        due("sell(0)", x.sell(0), 1);
        x.undo();
        due("bolts undone", x.count(5), 1);
        due("sold undone", x.count(8), 3);
        due("parish undone", x.boltOf(0, 0), 3);
        x.bolt(0, 5);
        x.send(1, 1);
        due("sell(0)", x.sell(0), 1);
        due("what one behind it gained", x.boltOf(0, 2), 1000333);
        due("how often one behind it was sent", x.boltOf(0, 3), 1);
    }

    private static void promise9() {
        ParishYards x = new ParishYards();
        due("append(33)", x.append(33), 1);
        due("append(126)", x.append(126), 2);
        throwsDue(x, ARGUMENT, "append(32)", () -> x.append(32));
        throwsDue(x, ARGUMENT, "append(127)", () -> x.append(127));
        throwsDue(x, ARGUMENT, "append(low)", () -> x.append(LOW));
        throwsDue(x, ARGUMENT, "append(65536 + 48)", () -> x.append(65584));
        for (int i = 3; i <= 60; i++) {
            due("append(48)", x.append(48), i);
        }
        throwsDue(x, STATE, "append(48) with 60", () -> x.append(48));
        throwsDue(x, ARGUMENT, "append(32) with 60", () -> x.append(32));
        due("no saved state", x.count(17), 0);
        due("clearBuffer()", x.clearBuffer(), 60);
    }

    private static void promise10() {
        ParishYards x = type(new ParishYards(), "b0=5");
        due("clearBuffer()", x.clearBuffer(), 4);
        due("clearBuffer()", x.clearBuffer(), 0);
        due("no saved state", x.count(17), 0);
        due("firstError()", x.firstError(), 0);
        due("append after it", x.append('s'), 1);
        due("firstError()", x.firstError(), 1);
    }

    private static void promise11() {
        String[] whole = {
            "", "0>4=1/1", "4>0=99/99", "3>3=10/9", "-0>4", "-4>0", "-2>2", "b4=1", "b0=9999", "b0=10",
            "b0=200", "s0>4", "s7>0", "0>1=1/1;-0>1;b0=1;s0>0", "0", "0>", "0>1", "0>1=", "0>1=9",
            "0>1=90", "0>1=9/", "0>1=90/", "-", "-1", "-1>", "b", "b1", "b1=", "s", "s7", "s7>",
            "b1=1;", "0>1=1/10;"
        };
        for (String text : whole) {
            due("firstError of " + text, firstErrorOf(text), text.length());
        }
        // The last sign of each is its first error.
        String[] broken = {
            "5", ";", "a", ">", "B", "/", ":", "0;", "0=", "01", "0>5", "0>-", "0>1>", "0>1;", "0>1=0",
            "0>1=/", "0>1=1;", "0>1=1=", "0>1=123", "0>1=1/0", "0>1=1//", "0>1=1/;", "0>1=1/123",
            "0>1=1/1/", "0>1=1/1s", "0>1=:", "0>1=1:", "0>1=12:", "0>1=1/:", "0>1=1/1:", "b0=:", "b0=1:",
            "b0=12:", "b0=123:", "-5", "--", "-01", "-0;", "-0>5", "-0>1=", "-0>11", "b5", "b=", "b0>",
            "b0=0", "b0=;", "b0=12345", "b0=1s", "b0=1/", "s8", "s>", "s00", "s0=", "s0>5", "s0>00",
            "s0>0;;", "b0=1;5", "-0>1-", "s7>4b"
        };
        for (String text : broken) {
            due("firstError of " + text, firstErrorOf(text), text.length() - 1);
            due("firstError of " + text + "0", firstErrorOf(text + "0"), text.length() - 1);
        }
        String full = "s0>0;s0>0;s0>0;s0>0;s0>0;s0>0;s0>0;s0>0;s0>0;s0>0;s0>0;b0=1";
        due("a text that could go on beyond 60", firstErrorOf(full + ";"), 60);
        ParishYards x = type(new ParishYards(), "s0x");
        due("firstError()", x.firstError(), 2);
        due("firstError() again", x.firstError(), 2);
        due("the buffer stays", x.clearBuffer(), 3);
    }

    private static void promise12() {
        ParishYards x = new ParishYards();
        due("work", type(x, "0>1=3/2;b0=5;s0>1;-0>1").work(), 4);
        due("the bolt", x.boltOf(0, 1), 8);
        due("the table", x.count(0), 0);
        due("one saved state", x.count(17), 1);
        due("the buffer is cleared", x.clearBuffer(), 0);
        due("a stop at part 2", type(x, "b4=9999;0>2=12/99;s5>1;b0=1").work(), 2);
        due("bolts", x.count(5), 2);
        due("length", x.boltOf(1, 1), 9999);
        due("up", x.tableOf(0, 2, 0), 12);
        due("down", x.tableOf(0, 2, 1), 99);
        due("one more saved state", x.count(17), 2);
        due("nothing done", type(x, "s0>1").work(), 0);
        due("also saved", x.count(17), 3);
        due("undone as one", x.undo(), 2);
        due("undone as one", x.undo(), 1);
        due("bolts undone", x.count(5), 1);
        due("the buffer does not come back", x.clearBuffer(), 0);
        throwsDue(x, ARGUMENT, "work of nothing", x::work);
        for (String text : new String[] {
            "0>1=5", "0>1=5/", "0", "-", "-0", "-0>", "b0", "b0=", "s0>", "b0=5;", "b0=5;;", "b0=5x", "5"
        }) {
            type(x, text);
            throwsDue(x, ARGUMENT, "work of " + text, x::work);
            due("the buffer stays", x.clearBuffer(), text.length());
        }
        for (String text : new String[] {"b0=5", "b0=50", "b0=500", "b0=5000", "0>1=5/5", "0>1=55/55"}) {
            due("work of " + text, type(x, text).work(), 1);
        }
    }

    private static void promise13() {
        ParishYards x = new ParishYards();
        due("1", told(x, "b0=9;s0>0"), 111);
        due("2", told(x, "b1=9;b2=9;s2>4;b0=1"), 222);
        due("3", told(x, "0>1=99/1;b0=9999;s3>1"), 223);
        due("4 of a table", told(x, "2>2=1/1"), 4);
        due("4 of a drop", told(x, "-3>3"), 4);
        due("5", told(x, "1>2=1/1;2>0=1/98"), 115);
        due("6", told(x, "-3>4"), 6);
        due("7", told(x, "s7>4"), 7);
        due("7, though the parish is the same", told(x, "s4>0"), 7);
        due("8", told(x, "b0=1;b0=1;b0=1;b0=1;b0=1"), 448);
        due("the part", x.stopped(0), 4);
        throwsDue(x, ARGUMENT, "stopped(2)", () -> x.stopped(2));
        throwsDue(x, ARGUMENT, "stopped(-1)", () -> x.stopped(-1));
        type(x, "b0");
        throwsDue(x, ARGUMENT, "work", x::work);
        due("the stop stays", x.stopped(1), 8);
        x.clearBuffer();
        x.sell(0);
        due("the stop stays", x.stopped(1), 8);
        due("all are done", told(x, "b0=7"), 100);
        due("no stop: part", x.stopped(0), -1);
        x.undo();
        due("the stop undone", x.stopped(1), 8);
        due("the part undone", x.stopped(0), 4);
    }

    private static void promise14() {
        ParishYards x = new ParishYards();
        for (int i = 0; i < 8; i++) {
            x.stick(0, 40 + i);
            due("saved states", x.count(17), Math.min(6, i + 1));
        }
        for (int left = 5; left >= 0; left--) {
            due("undo()", x.undo(), left);
            due("the stick", x.count(12), 41 + left);
        }
        throwsDue(x, STATE, "undo()", x::undo);
        undoOfEach();
    }

    private static void undoOfEach() {
        ParishYards x = new ParishYards();
        x.table(0, 1, 1, 2);
        x.bolt(0, 3);
        x.keep();
        type(x, "x");
        List<Long> digests = new ArrayList<>();
        Test[] changes = {
            () -> x.stick(3, 50), () -> x.table(1, 2, 3, 4), () -> x.set(1, 1), () -> x.send(0, 1),
            () -> x.sell(0), x::restore
        };
        for (Test change : changes) {
            while (x.count(17) > 0) {
                x.undo();
            }
            x.table(0, 1, 1, 2);
            x.bolt(0, 3);
            digests.clear();
            digests.add(x.digest());
            change.run();
            x.undo();
            due("the state before", x.digest(), digests.get(0));
        }
        due("the buffer stays", x.clearBuffer(), 1);
        x.restore();
        due("the snapshot stays", x.count(5), 1);
    }

    private static void promise15() {
        ParishYards x = new ParishYards();
        due("keep()", x.keep(), 0);
        x.table(0, 1, 1, 1);
        x.table(1, 2, 1, 1);
        due("keep()", x.keep(), 2);
        due("it is not undoable", x.count(17), 2);
        x.undo();
        due("the snapshot in place of the one before", x.restore(), 2);
        x.drop(0, 1);
        due("the snapshot is no other state", x.restore(), 2);
    }

    private static void promise16() {
        ParishYards x = new ParishYards();
        throwsDue(x, STATE, "restore()", x::restore);
        told(x, "0>1=3/2;b0=5;s0>1;s0>1");
        x.stick(2, 44);
        x.set(2, 3);
        x.bolt(3, 77);
        x.sell(1);
        x.keep();
        long kept = x.digest();
        x.undo();
        x.undo();
        x.undo();
        x.undo();
        x.undo();
        due("all is undone", x.count(0) + x.count(5) + x.count(17), 0);
        due("restore()", x.restore(), 1);
        due("saved", x.count(17), 1);
        due("the stop comes back", x.stopped(1), 1);
        due("the stop comes back", x.stopped(0), 3);
        due("sold ones come back", x.count(8), 1);
        due("the stick comes back", x.count(14), 44);
        due("the setting comes back", x.count(11), 3);
        due("the bolt comes back", x.boltOf(0, 1), 8);
        due("its sendings come back", x.boltOf(0, 3), 1);
        due("what was gained comes back", x.count(7), 10000500);
        type(x, "b");
        x.drop(0, 1);
        due("restore() again", x.restore(), 1);
        due("the buffer stays", x.clearBuffer(), 1);
        due("saved", x.count(17), 3);
        x.restore();
        x.restore();
        due("the state is that of the snapshot, with as many saved", x.digest(), kept);
        x.undo();
        x.undo();
        x.undo();
        due("undone", x.count(0), 0);
    }

    private static void promise17() {
        ParishYards x = new ParishYards();
        x.table(3, 1, 2, 4);
        due("tableOf(3, 1, 0)", x.tableOf(3, 1, 0), 2);
        due("tableOf(3, 1, 1)", x.tableOf(3, 1, 1), 4);
        due("tableOf(1, 3, 0)", x.tableOf(1, 3, 0), 4);
        due("tableOf(1, 3, 1)", x.tableOf(1, 3, 1), 2);
        due("tableOf(1, 3, 2)", x.tableOf(1, 3, 2), 0);
        due("tableOf(0, 3, 2)", x.tableOf(0, 3, 2), 0);
        due("tableOf(0, 3, 0)", x.tableOf(0, 3, 0), -1);
        due("tableOf(0, 3, 1)", x.tableOf(0, 3, 1), -1);
        x.table(1, 0, 4, 2);
        x.table(0, 3, 1, 1);
        due("tableOf(3, 0, 2)", x.tableOf(3, 0, 2), 1);
        due("tableOf of all", allTables().tableOf(4, 2, 2), 15);
        throwsDue(x, INDEX, "tableOf(5, 0, 0)", () -> x.tableOf(5, 0, 0));
        throwsDue(x, INDEX, "tableOf(5, 5, 9)", () -> x.tableOf(5, 5, 9));
        throwsDue(x, INDEX, "tableOf(0, -1, 0)", () -> x.tableOf(0, -1, 0));
        throwsDue(x, ARGUMENT, "tableOf(1, 1, 0)", () -> x.tableOf(1, 1, 0));
        throwsDue(x, ARGUMENT, "tableOf(0, 1, 3)", () -> x.tableOf(0, 1, 3));
        throwsDue(x, ARGUMENT, "tableOf(0, 1, -1)", () -> x.tableOf(0, 1, -1));
    }

    private static void promise18() {
        ParishYards x = allTables();
        int[] numbers = {
            12, 13, 14, 23, 24, 34, 123, 124, 134, 234,
            123, 124, 132, 134, 142, 143, 213, 214, 234, 243, 314, 324, 1234, 1243, 1324,
            1234, 1243, 1324, 1342, 1423, 1432, 2134, 2143, 2314, 2413, 3124, 3214
        };
        for (int i = 0; i < 37; i++) {
            due("ring(" + i + ", 0)", x.ring(i, 0), i < 10 ? 3 : i < 25 ? 4 : 5);
            due("ring(" + i + ", 1)", x.ring(i, 1), numbers[i]);
            due("ring(" + i + ", 2)", x.ring(i, 2), 1000000);
            due("ring(" + i + ", 3)", x.ring(i, 3), 0);
        }
        for (int what = 0; what < 4; what++) {
            due("ring(37)", x.ring(37, what), -1);
            due("ring(high)", x.ring(HIGH, what), -1);
        }
        x.drop(0, 1);
        due("ring(0, 1)", x.ring(0, 1), 23);
        ParishYards y = losing();
        due("-101.01 down", y.ring(0, 2), 1000000 - 102);
        due("not off by 102", y.ring(0, 3), 0);
        y.set(0, 101);
        due("off by 101", y.ring(0, 3), 1);
        y.set(0, 102);
        y.table(2, 0, 99, 98);
        due("102.04 down", y.ring(0, 2), 1000102);
        due("not off by 102", y.ring(0, 3), 0);
        y.set(0, 101);
        due("off by 101", y.ring(0, 3), 1);
        due("less than a ten-thousandth", hairy().ring(0, 2), 1000000);
        due("less than a ten-thousandth is not off", hairy().ring(0, 3), 0);
        due("ring of the wide", wide().ring(0, 2), 1000500);
        throwsDue(x, ARGUMENT, "ring(-1, 0)", () -> x.ring(-1, 0));
        throwsDue(x, ARGUMENT, "ring(low, 0)", () -> x.ring(LOW, 0));
        throwsDue(x, ARGUMENT, "ring(0, 4)", () -> x.ring(0, 4));
        throwsDue(x, ARGUMENT, "ring(99, -1)", () -> x.ring(99, -1));
    }

    private static void promise19() {
        ParishYards x = new ParishYards();
        x.table(1, 2, 1, 3);
        x.bolt(1, 1);
        x.bolt(2, 7);
        x.send(0, 2);
        int[] first = {2, 0, 999666, 1};
        int[] second = {2, 7, 1000000, 0};
        for (int what = 0; what < 4; what++) {
            due("boltOf(0, " + what + ")", x.boltOf(0, what), first[what]);
            due("boltOf(1, " + what + ")", x.boltOf(1, what), second[what]);
        }
        throwsDue(x, INDEX, "boltOf(2, 0)", () -> x.boltOf(2, 0));
        throwsDue(x, INDEX, "boltOf(-1, 0)", () -> x.boltOf(-1, 0));
        throwsDue(x, INDEX, "boltOf(2, 4)", () -> x.boltOf(2, 4));
        throwsDue(x, ARGUMENT, "boltOf(0, 4)", () -> x.boltOf(0, 4));
        throwsDue(x, ARGUMENT, "boltOf(0, -1)", () -> x.boltOf(0, -1));
        due("looks save nothing", x.count(17), 4);
    }

    private static void promise20() {
        ParishYards x = losing();
        x.table(3, 4, 1, 7);
        x.bolt(3, 10);
        x.bolt(1, 500);
        x.send(0, 4);
        x.sell(0);
        x.bolt(2, 9000);
        x.set(0, 3);
        x.set(1, 1);
        x.set(2, 2);
        for (int i = 0; i < 5; i++) {
            x.stick(i, 21 + i);
        }
        int[] counts = {4, 1, 1, 0, 0, 2, 9500, 10000000 - 429, 1, 3, 1, 2, 21, 22, 23, 24, 25, 6};
        for (int what = 0; what < counts.length; what++) {
            due("count(" + what + ")", x.count(what), counts[what]);
        }
        throwsDue(x, ARGUMENT, "count(18)", () -> x.count(18));
        throwsDue(x, ARGUMENT, "count(-1)", () -> x.count(-1));
        throwsDue(x, ARGUMENT, "count(low)", () -> x.count(LOW));
        due("sound: all", allTables().count(3) * 10 + allTables().count(4), 11);
        due("not sound, though none is off", hairy().count(2) * 100 + hairy().count(3) * 10 + hairy().count(4), 0);
        ParishYards far = new ParishYards();
        far.set(0, 500);
        far.table(2, 3, 50, 51);
        far.table(3, 4, 1, 1);
        due("sound: no ring", far.count(3) * 10 + far.count(4), 11);
        far.table(4, 2, 1, 1);
        due("not sound: a ring without the lowest", far.count(3) * 10 + far.count(4), 0);
    }

    private static void promise21() {
        ParishYards x = allTables();
        due("offBy(0, 1, 1, 1)", x.offBy(0, 1, 1, 1), 0);
        due("offBy(0, 1, 2, 1)", x.offBy(0, 1, 2, 1), 12);
        due("offBy(4, 3, 2, 1)", x.offBy(4, 3, 2, 1), 34);
        due("offBy(4, 2, 2, 1)", x.offBy(4, 2, 2, 1), 24);
        due("offBy(3, 3 + 1, 99, 99)", x.offBy(3, 4, 99, 99), 0);
        x.drop(3, 0);
        x.drop(0, 4);
        due("offBy(3, 4, 2, 1)", x.offBy(3, 4, 2, 1), 134);
        x.drop(1, 3);
        x.drop(1, 4);
        x.drop(2, 3);
        due("a ring of four", x.offBy(0, 3, 2, 1), 243);
        x.drop(0, 2);
        due("a ring of five", x.offBy(0, 3, 2, 1), 1243);
        x.drop(0, 1);
        due("no ring", x.offBy(0, 3, 2, 1), 0);
        due("nothing is set", x.tableOf(0, 3, 0), -1);
        ParishYards y = losing();
        y.set(0, 0);
        due("another ring is off", y.offBy(3, 4, 9, 7), 0);
        due("its own table", y.offBy(0, 2, 1, 1), 0);
        due("its own table", y.offBy(0, 2, 99, 98), 12);
        due("less than a ten-thousandth more", hairy().offBy(2, 0, 87, 82), 0);
        ParishYards z = new ParishYards();
        z.table(0, 1, 2, 5);
        z.table(1, 2, 61, 23);
        due("less than a ten-thousandth less", z.offBy(2, 0, 82, 87), 12);
        z.set(0, 1);
        due("less than a ten-thousandth less, with 1", z.offBy(2, 0, 82, 87), 0);
        throwsDue(x, INDEX, "offBy(5, 0, 1, 1)", () -> x.offBy(5, 0, 1, 1));
        throwsDue(x, INDEX, "offBy(0, 5, 0, 0)", () -> x.offBy(0, 5, 0, 0));
        throwsDue(x, ARGUMENT, "offBy(0, 0, 1, 1)", () -> x.offBy(0, 0, 1, 1));
        throwsDue(x, ARGUMENT, "offBy(0, 1, 0, 1)", () -> x.offBy(0, 1, 0, 1));
        throwsDue(x, ARGUMENT, "offBy(0, 1, 100, 1)", () -> x.offBy(0, 1, 100, 1));
        throwsDue(x, ARGUMENT, "offBy(0, 1, 1, 0)", () -> x.offBy(0, 1, 1, 0));
        throwsDue(x, ARGUMENT, "offBy(0, 1, 1, 100)", () -> x.offBy(0, 1, 1, 100));
    }

    private static void promise22() {
        ParishYards x = new ParishYards();
        x.table(0, 1, 3, 2);
        x.table(1, 2, 1, 3);
        x.table(3, 4, 99, 1);
        due("7.5", x.turned(0, 1, 5), 8);
        due("3.33", x.turned(1, 0, 5), 3);
        due("0.33", x.turned(1, 2, 1), 0);
        due("0.67", x.turned(1, 2, 2), 1);
        due("0", x.turned(1, 2, 0), 0);
        due("beyond a bolt's length", x.turned(3, 4, 99999), 9899901);
        due("turned(4, 3, 99999): 1010.09", x.turned(4, 3, 99999), 1010);
        due("no table", x.turned(0, 2, 5), -1);
        x.set(1, 1);
        due("7.5 down", x.turned(0, 1, 5), 7);
        due("0.67 down", x.turned(1, 2, 2), 0);
        due("1 down", x.turned(1, 2, 3), 1);
        throwsDue(x, INDEX, "turned(5, 0, 1)", () -> x.turned(5, 0, 1));
        throwsDue(x, INDEX, "turned(0, -1, -1)", () -> x.turned(0, -1, -1));
        throwsDue(x, ARGUMENT, "turned(0, 0, 1)", () -> x.turned(0, 0, 1));
        throwsDue(x, ARGUMENT, "turned(0, 1, -1)", () -> x.turned(0, 1, -1));
        throwsDue(x, ARGUMENT, "turned(0, 1, 100000)", () -> x.turned(0, 1, 100000));
        throwsDue(x, ARGUMENT, "turned(0, 2, 100000)", () -> x.turned(0, 2, 100000));
    }

    private static void promise23() {
        ParishYards x = new ParishYards();
        x.set(0, 500);
        x.table(0, 1, 1, 2);
        due("the only way", x.bestWay(0, 1, 7), 100001);
        due("the other way around", x.bestWay(1, 0, 7), 100010);
        due("no way", x.bestWay(0, 2, 7), -1);
        x.table(0, 2, 1, 1);
        x.table(2, 1, 1, 2);
        due("the fewest steps of the same", x.bestWay(0, 1, 7), 100001);
        x.drop(2, 1);
        x.table(0, 2, 2, 1);
        x.table(2, 1, 1, 4);
        due("3.5; 14, 3.5", x.bestWay(0, 1, 7), 100001);
        ParishYards y = new ParishYards();
        y.table(0, 1, 1, 3);
        y.table(0, 2, 2, 3);
        y.table(2, 1, 1, 2);
        due("4.67; 9.33, 4.5", y.bestWay(0, 1, 14), 100001);
        due("both exact", y.bestWay(0, 1, 3), 100001);
        ParishYards z = new ParishYards();
        z.table(0, 1, 1, 3);
        z.table(0, 2, 1, 1);
        z.table(2, 3, 1, 1);
        z.table(3, 4, 1, 3);
        z.table(4, 1, 1, 1);
        due("the same lost: the fewest steps", z.bestWay(0, 1, 100), 100001);
        z.set(0, 500);
        z.drop(0, 1);
        z.table(0, 1, 33, 98);
        due("33.67; 100, 100, 33.33", z.bestWay(0, 1, 100), 100001);
        z.table(0, 1, 34, 99);
        due("34.34; 100, 100, 33.33", z.bestWay(0, 1, 100), 102341);
        z.set(2, 3);
        due("four steps are too many", z.bestWay(0, 1, 100), 100001);
        bySigns();
        bySteps();
        byNumbers();
        throwsDue(x, INDEX, "bestWay(5, 0, 1)", () -> x.bestWay(5, 0, 1));
        throwsDue(x, INDEX, "bestWay(5, 5, -1)", () -> x.bestWay(5, 5, -1));
        throwsDue(x, ARGUMENT, "bestWay(0, 0, 1)", () -> x.bestWay(0, 0, 1));
        throwsDue(x, ARGUMENT, "bestWay(0, 1, -1)", () -> x.bestWay(0, 1, -1));
        throwsDue(x, ARGUMENT, "bestWay(0, 1, 10000)", () -> x.bestWay(0, 1, 10000));
        due("bestWay(0, 1, 9999)", x.bestWay(0, 1, 9999), 100001);
        due("bestWay(0, 1, 0)", x.bestWay(0, 1, 0), 100001);
    }

    /** A loss counts like a gain, and what is lost is rounded down before its sign is left out. */
    private static void bySigns() {
        ParishYards x = new ParishYards();
        x.set(0, 500);
        x.table(0, 1, 1, 3);
        x.table(0, 2, 2, 3);
        x.table(2, 1, 34, 67);
        due("33.33 lost 334; 66.67 gained 333, 34 is exact", x.bestWay(0, 1, 100), 100021);
        x.set(1, 1);
        due("33.33 lost 334; 66.67 lost 667", x.bestWay(0, 1, 100), 100001);
        ParishYards y = new ParishYards();
        y.set(0, 500);
        y.table(0, 1, 1, 3);
        y.table(0, 2, 1, 2);
        y.table(2, 1, 40, 63);
        due("4.33 lost 334; 6.5 gained 500, 4.44 lost 445", y.bestWay(0, 1, 13), 100001);
    }

    private static void bySteps() {
        ParishYards x = new ParishYards();
        x.table(0, 1, 1, 1);
        x.table(1, 2, 1, 1);
        x.table(2, 3, 1, 1);
        x.table(3, 4, 1, 1);
        due("four steps", x.bestWay(0, 4, 5), 101234);
        due("four steps back", x.bestWay(4, 0, 5), 143210);
        x.set(2, 3);
        due("no way of three steps", x.bestWay(0, 4, 5), -1);
        due("three steps", x.bestWay(1, 4, 5), 101234);
        x.set(2, 1);
        due("no way of one step", x.bestWay(0, 2, 5), -1);
        due("one step", x.bestWay(3, 2, 5), 100032);
        due("looks save nothing", x.count(17), 6);
    }

    private static void byNumbers() {
        ParishYards x = new ParishYards();
        x.set(0, 500);
        x.table(0, 2, 1, 1);
        x.table(2, 4, 1, 1);
        x.table(0, 3, 1, 1);
        x.table(3, 4, 1, 1);
        due("0 2 4 before 0 3 4", x.bestWay(0, 4, 5), 100024);
        x.table(0, 1, 2, 1);
        x.table(1, 4, 1, 2);
        due("0 1 4 before them", x.bestWay(0, 4, 5), 100014);
        x.drop(1, 4);
        x.table(1, 2, 1, 2);
        due("two steps before three", x.bestWay(0, 4, 5), 100024);
        x.drop(0, 2);
        x.drop(0, 3);
        x.table(1, 3, 1, 2);
        due("0 1 2 4 before 0 1 3 4", x.bestWay(0, 4, 5), 100124);
        x.table(2, 4, 50, 51);
        due("0 1 3 4 keeps better", x.bestWay(0, 4, 5), 100134);
    }

    private static void promise24() {
        ParishYards x = new ParishYards();
        x.table(0, 1, 3, 2);
        due("no way but its own table", x.mends(0, 1, 0), -1);
        x.table(1, 2, 4, 3);
        due("12 / 6: up", x.mends(0, 2, 0), 2);
        due("12 / 6: down", x.mends(0, 2, 1), 1);
        due("6 / 12: up", x.mends(2, 0, 0), 1);
        due("6 / 12: down", x.mends(2, 0, 1), 2);
        x.table(0, 2, 4, 2);
        due("4 / 2 times 3 / 4: up", x.mends(0, 1, 0), 3);
        due("4 / 2 times 3 / 4: down", x.mends(0, 1, 1), 2);
        due("its own table does not count", x.mends(0, 2, 1), 1);
        x.set(2, 1);
        due("whatever setting 2 is", x.mends(0, 2, 0), 2);
        due("no way", x.mends(0, 4, 0), -1);
        ParishYards y = new ParishYards();
        y.table(0, 1, 99, 1);
        y.table(1, 2, 1, 1);
        due("99", y.mends(0, 2, 0), 99);
        due("99", y.mends(2, 0, 1), 99);
        y.table(1, 2, 2, 1);
        due("198: up", y.mends(0, 2, 0), -1);
        due("198: down", y.mends(0, 2, 1), -1);
        due("1 / 198: up", y.mends(2, 0, 0), -1);
        y.table(1, 2, 5, 99);
        due("99 * 5 / 99", y.mends(0, 2, 0), 5);
        y.table(2, 3, 99, 5);
        y.table(3, 4, 1, 99);
        due("four steps", y.mends(0, 4, 0) * 10 + y.mends(0, 4, 1), 11);
        fewestSteps();
        throwsDue(x, INDEX, "mends(5, 0, 0)", () -> x.mends(5, 0, 0));
        throwsDue(x, INDEX, "mends(-1, -1, 3)", () -> x.mends(-1, -1, 3));
        throwsDue(x, ARGUMENT, "mends(0, 0, 0)", () -> x.mends(0, 0, 0));
        throwsDue(x, ARGUMENT, "mends(0, 1, 2)", () -> x.mends(0, 1, 2));
        throwsDue(x, ARGUMENT, "mends(0, 1, -1)", () -> x.mends(0, 1, -1));
    }

    /** From 0 to 4 by 1 2, by 3, and by 2: each way has a product of its own. */
    private static void fewestSteps() {
        ParishYards x = new ParishYards();
        x.set(0, 500);
        x.table(0, 1, 50, 49);
        x.table(1, 2, 50, 49);
        x.table(2, 4, 1, 1);
        due("the only way", x.mends(0, 4, 0), -1);
        x.table(1, 2, 1, 1);
        due("the only way", x.mends(0, 4, 0), 50);
        x.table(0, 3, 51, 50);
        x.table(3, 4, 1, 1);
        due("two steps", x.mends(0, 4, 0), 51);
        x.table(0, 2, 52, 51);
        due("2 before 3", x.mends(0, 4, 0), 52);
        x.table(1, 4, 1, 1);
        due("1 before 2", x.mends(0, 4, 0), 50);
    }

    private static void promise25() {
        due("no rings", Double.doubleToLongBits(new ParishYards().trueShare()), Double.doubleToLongBits(1.0));
        due("all", Double.doubleToLongBits(allTables().trueShare()), Double.doubleToLongBits(1.0));
        ParishYards x = losing();
        due("all, by 102", Double.doubleToLongBits(x.trueShare()), Double.doubleToLongBits(1.0));
        x.set(0, 101);
        due("none, by 101", Double.doubleToLongBits(x.trueShare()), Double.doubleToLongBits(0.0));
        x.set(0, 102);
        x.table(1, 3, 1, 1);
        x.table(3, 2, 1, 1);
        due("all of three", Double.doubleToLongBits(x.trueShare()), Double.doubleToLongBits(1.0));
        x.set(0, 101);
        due("one of three", Double.doubleToLongBits(x.trueShare()), Double.doubleToLongBits(1.0 / 3.0));
        due("rings", x.count(1) * 10 + x.count(2), 32);
    }

    private static void promise26() {
        ParishYards x = new ParishYards();
        due("digest of a new object", x.digest(), digestOf(x, ""));
        due("digest twice", x.digest(), digestOf(x, ""));
        due("digest of all tables", allTables().digest(), digestOf(allTables(), ""));
        due("digest of a ring that is off", losing().digest(), digestOf(losing(), ""));
        told(x, "0>1=3/2;b0=5;b2=9;s0>1;s7>0");
        type(x, "s~!");
        due("digest with bolts, a stop and a buffer", x.digest(), digestOf(x, "s~!"));
        x.clearBuffer();
        type(x, "s~\"");
        due("digest with another buffer", x.digest(), digestOf(x, "s~\""));
        due("digest saves nothing", x.count(17), 1);
        shares();
        ParishYards y = new ParishYards();
        y.set(0, 500);
        y.table(0, 1, 3, 2);
        y.table(1, 2, 1, 1);
        y.table(0, 2, 3, 2);
        due("digest with no ring off by 3 / 2", y.digest(), digestOf(y, ""));
        y.table(0, 3, 1, 3);
        y.table(0, 4, 2, 3);
        y.table(4, 3, 34, 67);
        due("digest with a best way of 100", y.digest(), digestOf(y, ""));
    }

    /** All shares that rings of one losing table and others have: the bits of each are told by hand. */
    private static void shares() {
        ParishYards x = allTables();
        x.set(0, 500);
        x.table(0, 1, 50, 49);
        x.table(2, 3, 60, 61);
        for (int bound = 0; bound <= 500; bound += 20) {
            x.set(0, bound);
            due("digest with bound " + bound, x.digest(), digestOf(x, ""));
        }
        for (int a = 0; a < 5; a++) {
            for (int b = a + 1; b < 5; b++) {
                x.drop(a, b);
                x.set(0, 0);
                due("digest without some tables", x.digest(), digestOf(x, ""));
            }
        }
    }
}
