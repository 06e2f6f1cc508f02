/** Tests by sentence: promises 17 to 20: tableOf, ring, boltOf, count. */
final class LookSentences extends Checks {

    @Section("Promise 17: tableOf")
    static final class TableOf {
        private static final String WHAT = "- `what`: 0: its up; 1: its down; 2: rings that have it";

        @Says("Returns something of the table of two parishes.")
        static void eachTableHasItsOwn() {
            ParishYards x = new ParishYards();
            for (int a = 0; a < 5; a++) {
                for (int b = a + 1; b < 5; b++) {
                    x.table(a, b, 10 * a + b, 10 * a + b);
                }
            }
            for (int a = 0; a < 5; a++) {
                for (int b = a + 1; b < 5; b++) {
                    due("up of " + a + " and " + b, x.tableOf(a, b, 0), 10 * a + b);
                    due("down of " + b + " and " + a, x.tableOf(b, a, 1), 10 * a + b);
                }
            }
            changesNothing(Checks::busy, "tableOf(0, 1, 2)", y -> y.tableOf(0, 1, 2));
        }

        @Says("- `from`: 0 to 4")
        static void fromIs0To4() {
            bounds(Checks::busy, INDEX, "tableOf(_, .., 2)", (x, v) -> x.tableOf(v, other(v), 2), 0, 4);
        }

        @Says("- `to`: 0 to 4")
        static void toIs0To4() {
            bounds(Checks::busy, INDEX, "tableOf(.., _, 2)", (x, v) -> x.tableOf(other(v), v, 2), 0, 4);
        }

        @Says(WHAT)
        static void whatIs0To2() {
            bounds(Checks::busy, ARGUMENT, "tableOf(0, 1, _)", (x, v) -> x.tableOf(0, 1, v), 0, 2);
            ParishYards x = oneTable(2, 4);
            due("its up", x.tableOf(0, 1, 0), 2);
            due("its down", x.tableOf(0, 1, 1), 4);
            due("its up, the other way around", x.tableOf(1, 0, 0), 4);
            due("its down, the other way around", x.tableOf(1, 0, 1), 2);
        }

        @Says(WHAT)
        static void ringsThatHaveItAreTold() {
            ParishYards x = allTables();
            for (int a = 0; a < 5; a++) {
                for (int b = 0; b < 5; b++) {
                    if (a != b) {
                        due("rings of " + a + " and " + b, x.tableOf(a, b, 2), 15);
                    }
                }
            }
            ParishYards y = losing();
            y.table(2, 3, 1, 1);
            due("in one ring", y.tableOf(1, 0, 2), 1);
            due("in no ring", y.tableOf(3, 2, 2), 0);
        }

        @Says("Returns the number; NONE if there is no table (0 and 1).")
        static void noneIfThereIsNoTable() {
            ParishYards x = oneTable(1, 1);
            due("tableOf(0, 2, 0)", x.tableOf(0, 2, 0), NONE);
            due("tableOf(0, 2, 1)", x.tableOf(0, 2, 1), NONE);
            due("rings of no table", x.tableOf(0, 2, 2), 0);
            x.drop(0, 1);
            due("tableOf(0, 1, 0) after a drop", x.tableOf(0, 1, 0), NONE);
            ParishYards y = allTables();
            y.drop(0, 1);
            due("rings of no table, where there would be some", y.tableOf(0, 1, 2), 0);
        }

        @Says("Throws `IndexOutOfBoundsException` if there is no such parish")
        static void noSuchParish() {
            refused(Checks::busy, INDEX, "tableOf(-1, 0, 0)", x -> x.tableOf(-1, 0, 0));
            refused(Checks::busy, INDEX, "tableOf(0, 5, 0)", x -> x.tableOf(0, 5, 0));
            refused(Checks::busy, INDEX, "tableOf(5, 5, 0)", x -> x.tableOf(5, 5, 0));
            refused(Checks::busy, INDEX, "tableOf(5, 0, 3)", x -> x.tableOf(5, 0, 3));
        }

        @Says("Throws `IllegalArgumentException` if both are the same, or what is not 0 to 2")
        static void bothTheSameOrWhatOutOfRange() {
            refusedForEachParish(Checks::busy, ARGUMENT, "tableOf of _ and itself",
                    (x, v) -> x.tableOf(v, v, 0));
            refused(Checks::busy, ARGUMENT, "tableOf(0, 1, -1)", x -> x.tableOf(0, 1, -1));
            refused(Checks::busy, ARGUMENT, "tableOf(0, 1, 3)", x -> x.tableOf(0, 1, 3));
            refused(Checks::busy, ARGUMENT, "tableOf(0, 4, 3), without a table", x -> x.tableOf(0, 4, 3));
        }
    }

    @Section("Promise 18: ring")
    static final class Ring {
        private static final String NUMBER = "1: its parishes as a number: the first one, times 10, and the second one, "
                + "together, times 10, and so on";
        private static final String GAIN = "2: its gain, and 1000000 more, but at least 0, and at most 2000000000";

        @Says("Returns something of a ring.")
        static void eachRingHasItsOwn() {
            ParishYards x = losing();
            x.table(2, 3, 1, 1);
            x.table(3, 4, 1, 1);
            x.table(4, 2, 1, 1);
            due("the first ring's gain", x.ring(0, 2), 1000000 - 102);
            due("the second ring's gain", x.ring(1, 2), 1000000);
            due("the first ring", x.ring(0, 1), 12);
            due("the second ring", x.ring(1, 1), 234);
            changesNothing(Checks::busy, "ring(0, 2)", y -> y.ring(0, 2));
        }

        @Says("- `ring`: its place in the order of rings, from 0")
        static void theFirstPlaceIs0AndTheLastOf37Is36() {
            ParishYards x = allTables();
            due("ring(0, 1)", x.ring(0, 1), 12);
            due("ring(9, 1), the last of three", x.ring(9, 1), 234);
            due("ring(10, 1), the first of four", x.ring(10, 1), 123);
            due("ring(24, 1), the last of four", x.ring(24, 1), 1324);
            due("ring(25, 1), the first of five", x.ring(25, 1), 1234);
            due("ring(36, 1)", x.ring(36, 1), 3214);
            due("ring(37, 1)", x.ring(37, 1), NONE);
        }

        @Says("- `what`: 0: its parishes, how many")
        static void howManyParishesAreTold() {
            ParishYards x = allTables();
            for (int i = 0; i < 37; i++) {
                due("ring(" + i + ", 0)", x.ring(i, 0), i < 10 ? 3 : i < 25 ? 4 : 5);
            }
        }

        @Says(NUMBER)
        static void theParishesAreToldAsANumber() {
            ParishYards x = new ParishYards();
            x.table(2, 3, 1, 1);
            x.table(3, 4, 1, 1);
            x.table(4, 2, 1, 1);
            due("2 3 4", x.ring(0, 1), 234);
            due("a first parish 0 is not seen", losing().ring(0, 1), 12);
            ParishYards y = chain();
            y.table(4, 0, 1, 1);
            due("0 1 2 3 4", y.ring(0, 1), 1234);
        }

        @Says(GAIN)
        static void theGainAnd1000000More() {
            due("102", ringBy(102, 99, 98).ring(0, 2), 1000102);
            due("-102", ringBy(102, 98, 99).ring(0, 2), 999898);
            due("0", ringBy(0, 99, 99).ring(0, 2), 1000000);
        }

        @Says(GAIN)
        static void theMostThatTablesCanGainOrLoseIsInsideBothBounds() {
            due("500", ringBy(500, 21, 20).ring(0, 2), 1000500);
            due("-500", ringBy(500, 19, 20).ring(0, 2), 999500);
            refused(Checks::busy, STATE, "a gain far above 2000000000 less 1000000", x -> x.table(0, 1, 99, 1));
        }

        @Says("3: 1 if it is off, otherwise 0")
        static void oneIfItIsOff() {
            ParishYards x = losing();
            due("-102 by 102", x.ring(0, 3), 0);
            x.set(0, 101);
            due("-102 by 101", x.ring(0, 3), 1);
            x.table(2, 3, 1, 1);
            x.table(3, 4, 1, 1);
            x.table(4, 2, 1, 1);
            due("another ring beside it", x.ring(1, 1) * 10 + x.ring(1, 3), 2340);
            ParishYards y = ringBy(102, 99, 98);
            due("102 by 102", y.ring(0, 3), 0);
            y.set(0, 101);
            due("102 by 101", y.ring(0, 3), 1);
        }

        @Says("Returns the number; NONE if there are not so many.")
        static void noneIfThereAreNotSoMany() {
            for (int what = 0; what < 4; what++) {
                due("no rings", new ParishYards().ring(0, what), NONE);
                due("the second of one", losing().ring(1, what), NONE);
                due("the last one", allTables().ring(36, what) == NONE ? 1 : 0, 0);
                due("one behind the last", allTables().ring(37, what), NONE);
                due("far behind", allTables().ring(HIGH, what), NONE);
            }
        }

        @Says("Throws `IllegalArgumentException` if ring is below 0, or what is not 0 to 3")
        static void ringBelow0() {
            refused(Checks::busy, ARGUMENT, "ring(-1, 0)", x -> x.ring(-1, 0));
            refused(Checks::busy, ARGUMENT, "ring(low, 3)", x -> x.ring(LOW, 3));
            refused(ParishYards::new, ARGUMENT, "ring(-1, 0) without rings", x -> x.ring(-1, 0));
        }

        @Says("Throws `IllegalArgumentException` if ring is below 0, or what is not 0 to 3")
        static void whatIsNot0To3() {
            bounds(Checks::busy, ARGUMENT, "ring(0, _)", (x, v) -> x.ring(0, v), 0, 3);
            refused(Checks::busy, ARGUMENT, "ring(99, 4), where there are not so many", x -> x.ring(99, 4));
            refused(Checks::busy, ARGUMENT, "ring(99, -1)", x -> x.ring(99, -1));
        }
    }

    @Section("Promise 19: boltOf")
    static final class BoltOf {
        private static final String WHAT = "- `what`: 0: its parish; 1: its length; 2: what it gained so far, and 1000000 "
                + "more; 3: how often it was sent";

        @Says("Returns something of a bolt.")
        static void eachBoltHasItsOwn() {
            ParishYards x = eightBolts();
            for (int i = 0; i < 8; i++) {
                due("parish of " + i, x.boltOf(i, 0), i % 5);
                due("length of " + i, x.boltOf(i, 1), 10 + i);
            }
            changesNothing(Checks::busy, "boltOf(0, 2)", y -> y.boltOf(0, 2));
        }

        @Says("- `bolt`: its number")
        static void theBoltIs0ToTheLastOne() {
            bounds(Checks::eightBolts, INDEX, "boltOf(_, 1)", (x, v) -> x.boltOf(v, 1), 0, 7);
            bounds(Checks::busy, INDEX, "boltOf(_, 1)", (x, v) -> x.boltOf(v, 1), 0, 1);
        }

        @Says(WHAT)
        static void whatIs0To3() {
            bounds(Checks::busy, ARGUMENT, "boltOf(0, _)", (x, v) -> x.boltOf(0, v), 0, 3);
            ParishYards x = oneTable(1, 3);
            x.bolt(0, 1);
            int[] before = {0, 1, 1000000, 0};
            int[] after = {1, 0, 1000000 - 334, 1};
            for (int what = 0; what < 4; what++) {
                due("before it is sent", x.boltOf(0, what), before[what]);
            }
            x.send(0, 1);
            for (int what = 0; what < 4; what++) {
                due("after it was sent", x.boltOf(0, what), after[what]);
            }
        }

        @Says("Returns the number.")
        static void numbersAtTheirBounds() {
            ParishYards x = oneTable(41, 1);
            x.bolt(0, 2439);
            x.bolt(0, 1);
            x.send(0, 1);
            due("the greatest length", x.boltOf(0, 1), 99999);
            x.table(0, 1, 1, 99);
            x.send(1, 1);
            due("the least length", x.boltOf(1, 1), 0);
            due("a loss", x.boltOf(1, 2), 1000000 - 11);
        }

        @Says("Throws `IndexOutOfBoundsException` if there is no such bolt")
        static void noSuchBolt() {
            refused(Checks::busy, INDEX, "boltOf(-1, 0)", x -> x.boltOf(-1, 0));
            refused(Checks::busy, INDEX, "boltOf(2, 0)", x -> x.boltOf(2, 0));
            refused(Checks::busy, INDEX, "boltOf(2, 4)", x -> x.boltOf(2, 4));
            refused(Checks::eightBolts, INDEX, "boltOf(8, 0)", x -> x.boltOf(8, 0));
            refused(ParishYards::new, INDEX, "boltOf(0, 0) without bolts", x -> x.boltOf(0, 0));
        }

        @Says("Throws `IllegalArgumentException` if what is not 0 to 3")
        static void whatIsNot0To3() {
            refused(Checks::busy, ARGUMENT, "boltOf(0, -1)", x -> x.boltOf(0, -1));
            refused(Checks::busy, ARGUMENT, "boltOf(0, 4)", x -> x.boltOf(0, 4));
            refused(Checks::busy, ARGUMENT, "boltOf(1, high)", x -> x.boltOf(1, HIGH));
        }
    }

    @Section("Promise 20: count")
    static final class Count {
        private static final String GAINED = "7: what all gained so far, bolts that were sold too, and 10000000 more";

        @Says("Returns a number.")
        static void aCountChangesNothing() {
            for (int what = 0; what <= 17; what++) {
                int one = what;
                changesNothing(Checks::busy, "count(" + what + ")", x -> x.count(one));
            }
        }

        @Says("- `what`: 0: tables; 1: rings; 2: rings that are off")
        static void tablesAndRingsAreCounted() {
            ParishYards none = new ParishYards();
            due("none", none.count(0) + none.count(1) + none.count(2), 0);
            ParishYards all = allTables();
            due("tables", all.count(0), 10);
            due("rings", all.count(1), 37);
            due("rings that are off", all.count(2), 0);
            all.set(0, 102);
            all.table(0, 1, 98, 99);
            due("rings that are off by 102", all.count(2), 0);
            all.set(0, 101);
            due("rings that are off by 101, all with a table of 0 and 1, in both directions", all.count(2), 15);
        }

        @Says("3: 1 if the tables are sound, told by rings, otherwise 0; 4: the same, told by measures")
        static void soundnessIsToldInTwoWays() {
            due("no tables", new ParishYards().count(3) * 10 + new ParishYards().count(4), 11);
            due("all tables", allTables().count(3) * 10 + allTables().count(4), 11);
            due("a ring that is off by nothing", hairy().count(3) * 10 + hairy().count(4), 0);
            due("a ring that loses", losing().count(3) * 10 + losing().count(4), 0);
            ParishYards x = losing();
            x.drop(0, 1);
            due("the ring is open", x.count(3) * 10 + x.count(4), 11);
        }

        @Says("5: bolts; 6: the length of all bolts, together, each in its inches")
        static void boltsAndTheirLengthAreCounted() {
            ParishYards x = oneTable(41, 1);
            due("no bolts", x.count(5) * 10 + x.count(6), 0);
            for (int i = 1; i <= 8; i++) {
                x.bolt(0, 2439);
                x.send(i - 1, 1);
                due("bolts", x.count(5), i);
                due("their length", x.count(6), 99999 * i);
            }
            x.sell(3);
            due("bolts", x.count(5), 7);
            due("their length", x.count(6), 99999 * 7);
        }

        @Says(GAINED)
        static void whatAllGainedIsCountedAlsoOfSoldBolts() {
            ParishYards x = oneTable(1, 2);
            due("at first", x.count(7), 10000000);
            x.bolt(0, 1);
            x.bolt(0, 1);
            x.send(0, 1);
            due("one", x.count(7), 10000500);
            x.sell(0);
            due("it is sold", x.count(7), 10000500);
            x.set(1, 1);
            x.send(0, 1);
            due("one more", x.count(7), 10000000);
            x.table(0, 2, 1, 3);
            x.bolt(0, 1);
            x.send(1, 2);
            due("a loss of 333.3", x.count(7), 10000000 - 334);
            x.sell(0);
            x.sell(0);
            due("all are sold", x.count(7), 10000000 - 334);
            x.undo();
            x.undo();
            x.undo();
            due("undone", x.count(7), 10000000);
        }

        @Says("8: bolts sold so far")
        static void soldBoltsAreCounted() {
            ParishYards x = eightBolts();
            for (int sold = 1; sold <= 8; sold++) {
                x.sell(0);
                due("sold", x.count(8), sold);
            }
            x.undo();
            due("undone", x.count(8), 7);
        }

        @Says("9 to 11: the settings 0 to 2")
        static void settingsAreTold() {
            ParishYards x = new ParishYards();
            due("at first", x.count(9) * 100 + x.count(10) * 10 + x.count(11), 4);
            x.set(0, 500);
            x.set(1, 1);
            x.set(2, 1);
            due("setting 0", x.count(9), 500);
            due("setting 1", x.count(10), 1);
            due("setting 2", x.count(11), 1);
        }

        @Says("12 to 16: the yardsticks of the parishes 0 to 4")
        static void yardsticksAreTold() {
            ParishYards x = new ParishYards();
            for (int parish = 0; parish < 5; parish++) {
                due("at first", x.count(12 + parish), 36);
                x.stick(parish, 20 + 10 * parish);
            }
            for (int parish = 0; parish < 5; parish++) {
                due("the stick of " + parish, x.count(12 + parish), 20 + 10 * parish);
            }
        }

        @Says("17: saved states")
        static void savedStatesAreCounted() {
            ParishYards x = new ParishYards();
            due("none", x.count(17), 0);
            for (int i = 1; i <= 7; i++) {
                x.stick(0, 36);
                due("after " + i, x.count(17), Math.min(i, 6));
            }
            x.undo();
            due("after undo()", x.count(17), 5);
        }

        @Says("Returns the number.")
        static void numbersOfANewObject() {
            int[] counts = {0, 0, 0, 1, 1, 0, 0, 10000000, 0, 0, 0, 4, 36, 36, 36, 36, 36, 0};
            for (int what = 0; what <= 17; what++) {
                due("count(" + what + ")", new ParishYards().count(what), counts[what]);
            }
        }

        @Says("Throws `IllegalArgumentException` if what is not 0 to 17")
        static void whatIsNot0To17() {
            bounds(Checks::busy, ARGUMENT, "count(_)", (x, v) -> x.count(v), 0, 17);
        }
    }
}
