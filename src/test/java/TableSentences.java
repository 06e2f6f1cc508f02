import java.util.ArrayList;
import java.util.List;

/** Tests by sentence: rings, and promises 1 to 5: a new object, sticks, tables, settings. */
final class TableSentences extends Checks {

    @Section("Rings")
    static final class Rings {
        private static final String RING = "A ring is three to five parishes, each another one, with a table from "
                + "each to the next one, and from the last to the first.";
        private static final String TOLD = "It is told from its lowest parish on, in the direction in which the "
                + "second one is lower than the last one; so each ring is told once.";
        private static final String ORDER = "The rings are in order: those of fewer parishes first, then by the "
                + "numbers of their parishes, one behind the other.";
        private static final String PRODUCT =
                "The product of a ring is the product of its tables, as a fraction.";
        private static final String GAIN = "Its gain is (the up of the product less its down) times 10000, divided "
                + "by its down: 0, if the ring neither gains nor loses.";
        private static final String ANY_FRACTION =
                "(The product can be told by any of its fractions: the gain is the same.)";
        private static final String OFF = "A ring is off, if its gain, without its sign, is above setting 0.";
        private static final String SOUND = "The tables are sound, if the product of each ring is 1, exactly.";
        private static final String SECOND = "This is told a second time without rings: each parish is measured from "
                + "the lowest one that can be reached, by the first way that is found, and each table is looked at "
                + "beside these measures; both agree.";

        /** An object with tables of 1 to 1 between each of the parishes and the next one. */
        private static ParishYards path(int... parishes) {
            ParishYards x = new ParishYards();
            for (int i = 1; i < parishes.length; i++) {
                x.table(parishes[i - 1], parishes[i], 1, 1);
            }
            return x;
        }

        @Says(RING)
        static void twoParishesAreNoRing() {
            due("rings of a table", path(0, 1).count(1), 0);
            due("rings of a table, told both ways around", path(0, 1, 0).count(1), 0);
            due("ring(0, 0)", path(0, 1, 0).ring(0, 0), NONE);
        }

        @Says(RING)
        static void threeToFiveParishesAreARing() {
            due("three", path(0, 1, 2, 0).ring(0, 0), 3);
            due("four", path(0, 1, 2, 3, 0).ring(0, 0), 4);
            due("five", path(0, 1, 2, 3, 4, 0).ring(0, 0), 5);
            due("rings of five", path(0, 1, 2, 3, 4, 0).count(1), 1);
        }

        @Says(RING)
        static void withoutATableFromTheLastToTheFirstThereIsNoRing() {
            due("three", path(0, 1, 2).count(1), 0);
            due("four", path(0, 1, 2, 3).count(1), 0);
            due("five", path(0, 1, 2, 3, 4).count(1), 0);
            due("a star", path(1, 0, 2, 0, 3, 0, 4).count(1), 0);
        }

        @Says(RING)
        static void aRingComesToNoParishTwice() {
            ParishYards x = path(0, 1, 2, 0, 3, 4, 0);
            due("two rings that meet in 0", x.count(1), 2);
            due("the first", x.ring(0, 1), 12);
            due("the second", x.ring(1, 1), 34);
        }

        /** Puts parishes behind those of a ring, each time another one, and looks at each ring that this makes. */
        private static void eachRing(int[] stops, int size) {
            if (size >= 3) {
                int[] closed = new int[size + 1];
                System.arraycopy(stops, 0, closed, 0, size);
                closed[size] = stops[0];
                ParishYards x = path(closed);
                due("rings", x.count(1), 1);
                due("parishes", x.ring(0, 0), size);
                due("the ring told", x.ring(0, 1), lowestNumber(stops, size));
            }
            for (int next = 0; next < 5 && size < 5; next++) {
                if (!isAmong(next, stops, size)) {
                    stops[size] = next;
                    eachRing(stops, size + 1);
                }
            }
        }

        /** The lowest of all numbers that tell a ring, from any parish and in any direction. */
        private static int lowestNumber(int[] stops, int size) {
            int lowest = HIGH;
            for (int start = 0; start < size; start++) {
                int ahead = 0;
                int back = 0;
                for (int i = 0; i < size; i++) {
                    ahead = ahead * 10 + stops[(start + i) % size];
                    back = back * 10 + stops[(start - i + size) % size];
                }
                lowest = Math.min(lowest, Math.min(ahead, back));
            }
            return lowest;
        }

        @Says(TOLD)
        static void eachRingIsToldOnceFromItsLowestParishOn() {
            eachRing(new int[5], 0);
        }

        @Says(TOLD)
        static void aRingIsToldInTheDirectionOfItsLowerSecondParish() {
            due("0 2 1 3", path(0, 2, 1, 3, 0).ring(0, 1), 213);
            due("0 3 1 2", path(0, 3, 1, 2, 0).ring(0, 1), 213);
            due("4 1 3 2", path(4, 1, 3, 2, 4).ring(0, 1), 1324);
        }

        @Says(ORDER)
        static void fewerParishesFirst() {
            ParishYards x = path(0, 1, 2, 3, 4, 0);
            x.table(2, 4, 1, 1);
            due("three, though its numbers are higher", x.ring(0, 1), 234);
            due("four", x.ring(1, 1), 124);
            due("five", x.ring(2, 1), 1234);
            due("no more", x.ring(3, 1), NONE);
        }

        @Says(ORDER)
        static void thenByTheNumbersOfParishes() {
            ParishYards x = allTables();
            int places = 0;
            for (int i = 0; x.ring(i, 0) != NONE; i++) {
                if (i > 0) {
                    boolean inOrder = x.ring(i - 1, 0) < x.ring(i, 0)
                            || x.ring(i - 1, 0) == x.ring(i, 0) && x.ring(i - 1, 1) < x.ring(i, 1);
                    due("ring " + i + " is behind the one before", inOrder ? 1 : 0, 1);
                }
                places++;
            }
            due("rings of all tables", places, 37);
        }

        @Says(ORDER)
        static void eachSetOfTablesHasItsRingsInOrder() {
            for (int set = 0; set < 1024; set++) {
                List<Integer> found = new ArrayList<>();
                for (int size = 3; size <= 5; size++) {
                    for (int first = 0; first < 5; first++) {
                        int[] stops = new int[size];
                        stops[0] = first;
                        closeRings(set, stops, 1, found);
                    }
                }
                ParishYards x = setOfTables(set);
                due("rings of set " + set, x.count(1), found.size());
                for (int i = 0; i < found.size(); i++) {
                    due("ring " + i + " of set " + set, x.ring(i, 1), found.get(i));
                }
            }
        }

        /** Finds the rings that go on so, the lowest next parish first. */
        private static void closeRings(int set, int[] stops, int size, List<Integer> found) {
            if (size == stops.length) {
                if (stops[1] < stops[size - 1] && isInSet(set, stops[size - 1], stops[0])) {
                    found.add(number(stops));
                }
                return;
            }
            for (int next = stops[0] + 1; next < 5; next++) {
                if (!isAmong(next, stops, size) && isInSet(set, stops[size - 1], next)) {
                    stops[size] = next;
                    closeRings(set, stops, size + 1, found);
                }
            }
        }

        @Says(PRODUCT)
        static void theProductIsThatOfAllTablesInTheDirectionOfTheRing() {
            ParishYards x = new ParishYards();
            x.set(0, 500);
            x.table(0, 1, 7, 5);
            x.table(1, 2, 5, 3);
            x.table(3, 2, 7, 3);
            due("7/5 5/3 3/7 41/40", x.table(3, 0, 41, 40), 1);
            due("its gain", x.ring(0, 2), 1000250);
            x.table(0, 3, 41, 40);
            due("its gain, the table the other way around", x.ring(0, 2), 1000000 - 244);
        }

        @Says(PRODUCT)
        static void theProductOfFiveTablesOf99IsNotCutOff() {
            ParishYards x = new ParishYards();
            x.set(0, 500);
            x.table(0, 1, 99, 98);
            x.table(1, 2, 99, 98);
            x.table(2, 3, 99, 98);
            x.table(3, 4, 97, 99);
            due("99 99 99 97 96 / 98 98 98 99 99", x.table(4, 0, 96, 99), 1);
            due("its gain", x.ring(0, 2), 1000000 - 206);
            due("99 99 99 97 99 / 98 98 98 99 99", x.table(4, 0, 99, 99), 1);
            due("its gain", x.ring(0, 2), 1000000 + 100);
        }

        @Says(GAIN)
        static void theGainIsToldInTenThousandths() {
            due("99 / 98", ringBy(500, 99, 98).ring(0, 2), 1000102);
            due("98 / 99", ringBy(500, 98, 99).ring(0, 2), 1000000 - 102);
            due("9802 / 9801", oneTenThousandth().ring(0, 2), 1000001);
            due("21 / 20", wide().ring(0, 2), 1000500);
        }

        /** Ring 012 with 9802 / 9801: a gain of 1. */
        private static ParishYards oneTenThousandth() {
            ParishYards x = new ParishYards();
            x.set(0, 1);
            x.table(0, 1, 26, 99);
            x.table(1, 2, 13, 99);
            x.table(2, 0, 29, 1);
            return x;
        }

        @Says(GAIN)
        static void theGainIsNoneIfTheRingNeitherGainsNorLoses() {
            due("1 / 1", ringBy(0, 1, 1).ring(0, 2), 1000000);
            due("99 / 99", ringBy(0, 99, 99).ring(0, 2), 1000000);
            ParishYards x = new ParishYards();
            x.table(0, 1, 99, 98);
            x.table(1, 2, 98, 97);
            due("99/98 98/97 97/99", x.table(2, 0, 97, 99), 1);
            due("its gain", x.ring(0, 2), 1000000);
        }

        @Says(ANY_FRACTION)
        static void anyFractionOfTheProductHasTheSameGain() {
            for (int times = 1; times <= 9; times++) {
                due("11 / 10 by " + times, gainOf(11 * times, 10 * times), 1000000 - 100);
                due("7 / 6 by " + times, gainOf(7 * times, 6 * times), 1000500);
            }
        }

        /** The gain of ring 012 with up / down, 9 / 10, and 1. */
        private static int gainOf(int up, int down) {
            ParishYards x = new ParishYards();
            x.set(0, 500);
            x.table(0, 1, up, down);
            x.table(1, 2, 9, 10);
            x.table(2, 0, 1, 1);
            return x.ring(0, 2);
        }

        @Says(OFF)
        static void aGainOfJustSetting0IsNotOff() {
            ParishYards x = ringBy(102, 99, 98);
            due("102 by 102", x.ring(0, 3), 0);
            x.set(0, 101);
            due("102 by 101", x.ring(0, 3), 1);
            x.set(0, 103);
            due("102 by 103", x.ring(0, 3), 0);
            due("count(2)", x.count(2), 0);
        }

        @Says(OFF)
        static void aLossCountsWithoutItsSign() {
            ParishYards x = ringBy(102, 98, 99);
            due("-102 by 102", x.ring(0, 3), 0);
            x.set(0, 101);
            due("-102 by 101", x.ring(0, 3), 1);
            x.set(0, 0);
            due("-102 by 0", x.ring(0, 3), 1);
            due("count(2)", x.count(2), 1);
        }

        @Says(OFF)
        static void bySetting0As0AGainOf1IsOff() {
            ParishYards x = oneTenThousandth();
            due("1 by 1", x.ring(0, 3), 0);
            x.set(0, 0);
            due("1 by 0", x.ring(0, 3), 1);
            due("0 by 0", ringBy(0, 7, 7).ring(0, 3), 0);
            due("0, though the product is above 1", hairy().ring(0, 3), 0);
        }

        @Says(OFF)
        static void bySetting0As500AGainOf500IsNotOff() {
            ParishYards x = wide();
            due("500 by 500", x.ring(0, 3), 0);
            x.set(0, 499);
            due("500 by 499", x.ring(0, 3), 1);
            ParishYards y = ringBy(500, 19, 20);
            due("-500 by 500", y.ring(0, 3), 0);
            y.set(0, 499);
            due("-500 by 499", y.ring(0, 3), 1);
        }

        private static void dueSound(String what, ParishYards x, int want) {
            due("sound, by rings: " + what, x.count(3), want);
            due("sound, by measures: " + what, x.count(4), want);
        }

        @Says(SOUND)
        static void tablesWithoutARingAreSound() {
            dueSound("no tables", new ParishYards(), 1);
            ParishYards x = new ParishYards();
            x.table(0, 4, 99, 1);
            x.table(4, 2, 98, 3);
            x.table(2, 1, 97, 5);
            x.table(1, 3, 95, 7);
            dueSound("four tables and no ring", x, 1);
        }

        @Says(SOUND)
        static void aProductOfJust1IsSound() {
            dueSound("all tables", allTables(), 1);
            ParishYards x = new ParishYards();
            x.table(0, 1, 99, 98);
            x.table(1, 2, 98, 97);
            x.table(2, 0, 97, 99);
            dueSound("99/98 98/97 97/99", x, 1);
        }

        @Says(SOUND)
        static void aProductThatIsNearTo1IsNotSound() {
            ParishYards x = hairy();
            dueSound("10005 / 10004", x, 0);
            due("though no ring is off", x.count(2), 0);
            dueSound("98 / 99", losing(), 0);
        }

        @Says(SOUND)
        static void eachRingCounts() {
            for (int a = 0; a < 5; a++) {
                for (int b = a + 1; b < 5; b++) {
                    ParishYards x = allTables();
                    x.set(0, 500);
                    x.table(a, b, 98, 99);
                    dueSound("98 / 99 of " + a + " and " + b, x, 0);
                    x.table(a, b, 99, 99);
                    dueSound("99 / 99 of " + a + " and " + b, x, 1);
                }
            }
        }

        @Says(SECOND)
        static void parishesThatCannotBeReachedHaveAMeasureOfTheirOwn() {
            ParishYards x = new ParishYards();
            x.set(0, 500);
            x.table(0, 1, 99, 1);
            x.table(2, 3, 50, 51);
            x.table(3, 4, 1, 1);
            dueSound("two parts, no ring", x, 1);
            x.table(4, 2, 1, 1);
            dueSound("a ring apart from 0", x, 0);
            x.table(4, 2, 51, 50);
            dueSound("a sound ring apart from 0", x, 1);
        }

        @Says(SECOND)
        static void aMeasureOfFourStepsIsExact() {
            ParishYards x = new ParishYards();
            x.set(0, 500);
            x.table(0, 1, 99, 98);
            x.table(1, 2, 97, 99);
            x.table(2, 3, 98, 95);
            x.table(3, 4, 95, 96);
            x.table(4, 0, 96, 97);
            dueSound("a ring of five", x, 1);
            x.table(4, 0, 97, 98);
            dueSound("a ring of five that gains", x, 0);
        }

        @Says(SECOND)
        static void bothAgreeForEachSetOfTablesWithAnOddOne() {
            for (int set = 0; set < 1024; set++) {
                for (int odd = 0; odd < 10; odd++) {
                    if ((set >> odd & 1) == 1) {
                        ParishYards x = setOfTables(set);
                        int inRings = x.tableOf(PAIRS[odd] / 10, PAIRS[odd] % 10, 2);
                        x.set(0, 500);
                        x.table(PAIRS[odd] / 10, PAIRS[odd] % 10, 51, 50);
                        dueSound("set " + set + " with 51 / 50 of pair " + PAIRS[odd], x, inRings == 0 ? 1 : 0);
                    }
                }
            }
        }

        @Says(SECOND)
        static void bothAgreeForEachRingThatGains() {
            List<ParishYards> all = new ArrayList<>();
            all.add(closed(0, 1, 2));
            all.add(closed(2, 3, 4));
            all.add(closed(0, 2, 1, 3));
            all.add(closed(1, 4, 2, 3));
            all.add(closed(0, 4, 1, 3, 2));
            for (ParishYards x : all) {
                dueSound("ring " + x.ring(0, 1) + ", 98 / 99", x, 0);
            }
        }

        private static ParishYards closed(int... stops) {
            ParishYards x = path(stops);
            x.set(0, 102);
            x.table(stops[stops.length - 1], stops[0], 98, 99);
            return x;
        }
    }

    @Section("Promise 1: A new object")
    static final class NewObject {
        private static final String NEW =
                "Creates parishes without tables, bolts and a snapshot, with an empty buffer.";

        @Says(NEW)
        static void thereAreNoTables() {
            ParishYards x = new ParishYards();
            due("tables", x.count(0), 0);
            due("rings", x.count(1), 0);
            due("rings that are off", x.count(2), 0);
            dueThrown("drop(0, 1)", x, STATE, y -> y.drop(0, 1));
        }

        @Says(NEW)
        static void thereAreNoBolts() {
            ParishYards x = new ParishYards();
            due("bolts", x.count(5), 0);
            due("their length", x.count(6), 0);
            due("what they gained", x.count(7), 10000000);
            due("bolts sold", x.count(8), 0);
            dueThrown("boltOf(0, 0)", x, INDEX, y -> y.boltOf(0, 0));
            due("the number of the first", x.bolt(0, 1), 0);
        }

        @Says(NEW)
        static void thereIsNoSnapshot() {
            dueThrown("restore()", new ParishYards(), STATE, ParishYards::restore);
        }

        @Says(NEW)
        static void theBufferIsEmpty() {
            due("firstError()", new ParishYards().firstError(), 0);
            due("clearBuffer()", new ParishYards().clearBuffer(), 0);
            due("append('b')", new ParishYards().append('b'), 1);
        }

        @Says(NEW)
        static void thereIsNoStopAndNoSavedState() {
            due("stopped(0)", new ParishYards().stopped(0), NONE);
            due("stopped(1)", new ParishYards().stopped(1), NONE);
            due("saved states", new ParishYards().count(17), 0);
            dueThrown("undo()", new ParishYards(), STATE, ParishYards::undo);
        }
    }

    @Section("Promise 2: stick")
    static final class Stick {
        @Says("Changes the yardstick of a parish. Undoable.")
        static void aStickIsChangedAndNoOtherOne() {
            for (int parish = 0; parish < 5; parish++) {
                ParishYards x = new ParishYards();
                x.stick(parish, 50);
                for (int i = 0; i < 5; i++) {
                    due("stick " + i + " after that of " + parish, x.count(12 + i), i == parish ? 50 : 36);
                }
            }
            undoable(Checks::small, "stick(1, 20)", x -> x.stick(1, 20));
        }

        @Says("- `parish`: 0 to 4")
        static void theParishIs0To4() {
            bounds(Checks::busy, INDEX, "stick(_, 50)", (x, v) -> x.stick(v, 50), 0, 4);
        }

        @Says("- `inches`: 20 to 60")
        static void theInchesAre20To60() {
            bounds(Checks::busy, ARGUMENT, "stick(0, _)", (x, v) -> x.stick(0, v), 20, 60);
        }

        @Says("Returns the previous inches.")
        static void theInchesBeforeAreTold() {
            ParishYards x = new ParishYards();
            due("the first time", x.stick(2, 20), 36);
            due("the second time", x.stick(2, 60), 20);
            due("the same again", x.stick(2, 60), 60);
            due("another parish", x.stick(3, 60), 36);
        }

        @Says("Throws `IndexOutOfBoundsException` if there is no such parish")
        static void noSuchParish() {
            refused(Checks::busy, INDEX, "stick(-1, 36)", x -> x.stick(-1, 36));
            refused(Checks::busy, INDEX, "stick(5, 36)", x -> x.stick(5, 36));
            refused(Checks::busy, INDEX, "stick(5, 61)", x -> x.stick(5, 61));
        }

        @Says("Throws `IllegalArgumentException` if inches is out of range")
        static void inchesOutOfRange() {
            refused(Checks::busy, ARGUMENT, "stick(4, 19)", x -> x.stick(4, 19));
            refused(Checks::busy, ARGUMENT, "stick(4, 61)", x -> x.stick(4, 61));
            refused(Checks::busy, ARGUMENT, "stick(0, -36)", x -> x.stick(0, -36));
        }
    }

    @Section("Promise 3: table")
    static final class Table {
        private static final String OFF = "Throws `IllegalStateException` if some ring with this table would be off";

        @Says("Sets the table of two parishes, in place of one that there was. Undoable.")
        static void aTableIsSetForBothWaysAround() {
            ParishYards x = new ParishYards();
            x.table(4, 1, 98, 3);
            due("up", x.tableOf(4, 1, 0), 98);
            due("down", x.tableOf(4, 1, 1), 3);
            due("up back", x.tableOf(1, 4, 0), 3);
            due("tables", x.count(0), 1);
            undoable(Checks::small, "a new table", y -> y.table(3, 4, 5, 6));
        }

        @Says("Sets the table of two parishes, in place of one that there was. Undoable.")
        static void aTableTakesThePlaceOfOneThatThereWas() {
            ParishYards x = allTables();
            due("the same again", x.table(3, 2, 1, 1), 37);
            due("another fraction of it", x.table(3, 2, 5, 5), 37);
            due("up", x.tableOf(2, 3, 0), 5);
            due("tables", x.count(0), 10);
            undoable(Checks::small, "the same table", y -> y.table(0, 1, 3, 2));
        }

        @Says("- `from`: 0 to 4")
        static void fromIs0To4() {
            bounds(ParishYards::new, INDEX, "table(_, .., 1, 2)", (x, v) -> x.table(v, other(v), 1, 2), 0, 4);
        }

        @Says("- `to`: 0 to 4")
        static void toIs0To4() {
            bounds(ParishYards::new, INDEX, "table(.., _, 1, 2)", (x, v) -> x.table(other(v), v, 1, 2), 0, 4);
        }

        @Says("- `up`: 1 to 99")
        static void upIs1To99() {
            bounds(Checks::small, ARGUMENT, "table(3, 4, _, 7)", (x, v) -> x.table(3, 4, v, 7), 1, 99);
        }

        @Says("- `down`: 1 to 99")
        static void downIs1To99() {
            bounds(Checks::small, ARGUMENT, "table(3, 4, 7, _)", (x, v) -> x.table(3, 4, 7, v), 1, 99);
        }

        @Says("Returns how many rings there are then.")
        static void theRingsAreTold() {
            int[] rings = {0, 0, 0, 0, 1, 3, 6, 12, 22, 37};
            ParishYards x = new ParishYards();
            int tables = 0;
            for (int a = 0; a < 5; a++) {
                for (int b = a + 1; b < 5; b++) {
                    due("table " + a + " " + b, x.table(a, b, 1, 1), rings[tables]);
                    tables++;
                }
            }
        }

        @Says("Throws `IndexOutOfBoundsException` if there is no such parish")
        static void noSuchParish() {
            refused(Checks::busy, INDEX, "table(-1, 0, 1, 1)", x -> x.table(-1, 0, 1, 1));
            refused(Checks::busy, INDEX, "table(5, 0, 1, 1)", x -> x.table(5, 0, 1, 1));
            refused(Checks::busy, INDEX, "table(0, -1, 1, 1)", x -> x.table(0, -1, 1, 1));
            refused(Checks::busy, INDEX, "table(0, 5, 1, 1)", x -> x.table(0, 5, 1, 1));
            refused(Checks::busy, INDEX, "table(5, 5, 0, 100)", x -> x.table(5, 5, 0, 100));
        }

        private static final String SAME =
                "Throws `IllegalArgumentException` if both are the same, or up or down is out of range";

        @Says(SAME)
        static void bothAreTheSame() {
            refusedForEachParish(Checks::busy, ARGUMENT, "a table of _ and itself",
                    (x, v) -> x.table(v, v, 1, 1));
        }

        @Says(SAME)
        static void upOrDownIsOutOfRange() {
            refused(Checks::busy, ARGUMENT, "up 0", x -> x.table(3, 4, 0, 1));
            refused(Checks::busy, ARGUMENT, "up 100", x -> x.table(3, 4, 100, 1));
            refused(Checks::busy, ARGUMENT, "down 0", x -> x.table(3, 4, 1, 0));
            refused(Checks::busy, ARGUMENT, "down 100", x -> x.table(3, 4, 1, 100));
            refused(Checks::busy, ARGUMENT, "up 100, where a ring would be off", x -> x.table(0, 1, 100, 1));
            refused(Checks::busy, ARGUMENT, "down 0, where a ring would be off", x -> x.table(0, 1, 1, 0));
        }

        /** Tables 01 and 12, by a bound, so that a table of 2 and 0 would close the ring. */
        private static ParishYards openRing(int bound) {
            ParishYards x = new ParishYards();
            x.set(0, bound);
            x.table(0, 1, 1, 1);
            x.table(1, 2, 1, 1);
            return x;
        }

        @Says(OFF)
        static void aRingThatGainsJustSetting0IsNotRefused() {
            due("102 by 102", openRing(102).table(2, 0, 99, 98), 1);
            due("-102 by 102", openRing(102).table(2, 0, 98, 99), 1);
            due("500 by 500", openRing(500).table(2, 0, 21, 20), 1);
            due("-500 by 500", openRing(500).table(2, 0, 19, 20), 1);
            due("0 by 0", openRing(0).table(2, 0, 99, 99), 1);
        }

        @Says(OFF)
        static void aRingThatGainsMoreThanSetting0IsRefused() {
            refused(() -> openRing(101), STATE, "102 by 101", x -> x.table(2, 0, 99, 98));
            refused(() -> openRing(101), STATE, "-102 by 101", x -> x.table(2, 0, 98, 99));
            refused(() -> openRing(499), STATE, "500 by 499", x -> x.table(2, 0, 21, 20));
            refused(() -> openRing(499), STATE, "-500 by 499", x -> x.table(2, 0, 19, 20));
            refused(() -> openRing(0), STATE, "102 by 0", x -> x.table(2, 0, 99, 98));
            refused(() -> openRing(500), STATE, "99 / 1 by 500", x -> x.table(2, 0, 99, 1));
        }

        @Says(OFF)
        static void aRingOfFourOrFiveIsLookedAtToo() {
            refused(Checks::chain, STATE, "a ring of four", x -> x.table(0, 3, 2, 1));
            refused(Checks::chain, STATE, "a ring of five", x -> x.table(4, 0, 2, 1));
            refused(Checks::allTables, STATE, "fifteen rings", x -> x.table(1, 3, 2, 1));
        }

        @Says(OFF)
        static void ofATableThatThereWasTheNewOneIsLookedAt() {
            ParishYards x = losing();
            x.set(0, 0);
            due("an off ring is mended", x.table(2, 0, 1, 1), 1);
            due("no ring is off", x.count(2), 0);
            refused(() -> ringBy(0, 1, 1), STATE, "a ring that is not off", y -> y.table(2, 0, 2, 1));
        }

        @Says(OFF)
        static void aRingWithoutThisTableMayBeOff() {
            ParishYards x = losing();
            x.set(0, 0);
            due("a table of no ring", x.table(3, 4, 99, 1), 1);
            due("one more", x.table(2, 3, 1, 1), 1);
            due("a ring beside it", x.table(2, 4, 99, 1), 2);
            due("rings that are off", x.count(2), 1);
        }
    }

    @Section("Promise 4: drop")
    static final class Drop {
        @Says("Drops the table of two parishes. Undoable.")
        static void aTableIsDroppedForBothWaysAround() {
            ParishYards x = allTables();
            x.drop(3, 1);
            due("up", x.tableOf(3, 1, 0), NONE);
            due("up back", x.tableOf(1, 3, 0), NONE);
            due("down back", x.tableOf(1, 3, 1), NONE);
            due("tables", x.count(0), 9);
            due("another one stays", x.tableOf(1, 4, 0), 1);
            undoable(Checks::small, "drop(2, 0)", y -> y.drop(2, 0));
        }

        @Says("- `from`: 0 to 4")
        static void fromIs0To4() {
            bounds(Checks::allTables, INDEX, "drop(_, ..)", (x, v) -> x.drop(v, other(v)), 0, 4);
        }

        @Says("- `to`: 0 to 4")
        static void toIs0To4() {
            bounds(Checks::allTables, INDEX, "drop(.., _)", (x, v) -> x.drop(other(v), v), 0, 4);
        }

        @Says("Returns how many rings there are then.")
        static void theRingsAreTold() {
            int[] rings = {22, 12, 7, 7, 3, 1, 1, 0, 0, 0};
            ParishYards x = allTables();
            int dropped = 0;
            for (int a = 4; a >= 0; a--) {
                for (int b = a - 1; b >= 0; b--) {
                    due("drop " + a + " " + b, x.drop(a, b), rings[dropped]);
                    dropped++;
                }
            }
            due("tables", x.count(0), 0);
        }

        @Says("Throws `IndexOutOfBoundsException` if there is no such parish")
        static void noSuchParish() {
            refused(Checks::busy, INDEX, "drop(-1, 0)", x -> x.drop(-1, 0));
            refused(Checks::busy, INDEX, "drop(5, 0)", x -> x.drop(5, 0));
            refused(Checks::busy, INDEX, "drop(0, -1)", x -> x.drop(0, -1));
            refused(Checks::busy, INDEX, "drop(0, 5)", x -> x.drop(0, 5));
            refused(Checks::busy, INDEX, "drop(5, 5)", x -> x.drop(5, 5));
        }

        @Says("Throws `IllegalStateException` if there is no table")
        static void thereIsNoTable() {
            refused(Checks::busy, STATE, "drop(0, 4)", x -> x.drop(0, 4));
            refused(Checks::busy, STATE, "drop(4, 0)", x -> x.drop(4, 0));
            refused(ParishYards::new, STATE, "drop of a new object", x -> x.drop(0, 1));
            ParishYards x = oneTable(1, 1);
            x.drop(1, 0);
            dueThrown("a second time", x, STATE, y -> y.drop(1, 0));
        }

        @Says("Throws `IllegalStateException` if there is no table")
        static void ofAParishAndItselfThereIsNoTable() {
            refusedForEachParish(Checks::allTables, STATE, "drop of _ and itself",
                    (x, v) -> x.drop(v, v));
        }
    }

    @Section("Promise 5: set")
    static final class Setting {
        private static final String STAY =
                "Changes a setting; tables stay, also if rings are off by it. Undoable.";

        @Says(STAY)
        static void aSettingIsChangedAndNoOtherOne() {
            ParishYards x = new ParishYards();
            x.set(0, 500);
            due("0 changed", x.count(9) * 100 + x.count(10) * 10 + x.count(11), 50004);
            x.set(1, 1);
            due("1 changed", x.count(9) * 100 + x.count(10) * 10 + x.count(11), 50014);
            x.set(2, 1);
            due("2 changed", x.count(9) * 100 + x.count(10) * 10 + x.count(11), 50011);
            undoable(Checks::small, "set(0, 500)", y -> y.set(0, 500));
            undoable(Checks::small, "set(1, 1)", y -> y.set(1, 1));
            undoable(Checks::small, "set(2, 1)", y -> y.set(2, 1));
            undoable(Checks::small, "set(2, 4), as it is", y -> y.set(2, 4));
        }

        @Says(STAY)
        static void tablesStayAlsoIfRingsAreOff() {
            ParishYards x = losing();
            x.set(0, 0);
            due("tables", x.count(0), 3);
            due("rings", x.count(1), 1);
            due("rings that are off", x.count(2), 1);
            due("the table", x.tableOf(2, 0, 0), 98);
            due("the gain", x.ring(0, 2), 1000000 - 102);
        }

        @Says("- `setting`: 0 to 2")
        static void theSettingIs0To2() {
            bounds(Checks::busy, INDEX, "set(_, 1)", (x, v) -> x.set(v, 1), 0, 2);
        }

        @Says("- `value`: the new value")
        static void eachNewValueIsTaken() {
            for (int value = 0; value <= 500; value += 5) {
                ParishYards x = new ParishYards();
                x.set(0, value);
                due("setting 0", x.count(9), value);
            }
            for (int value = 0; value <= 1; value++) {
                ParishYards x = new ParishYards();
                x.set(1, value);
                due("setting 1", x.count(10), value);
            }
            for (int value = 1; value <= 4; value++) {
                ParishYards x = new ParishYards();
                x.set(2, value);
                due("setting 2", x.count(11), value);
            }
        }

        @Says("Returns the previous value.")
        static void theValueBeforeIsTold() {
            ParishYards x = new ParishYards();
            due("set(0, 500) at first", x.set(0, 500), 0);
            due("set(0, 0)", x.set(0, 0), 500);
            due("set(1, 1) at first", x.set(1, 1), 0);
            due("set(1, 1) again", x.set(1, 1), 1);
            due("set(2, 1) at first", x.set(2, 1), 4);
            due("set(2, 4)", x.set(2, 4), 1);
        }

        @Says("Throws `IndexOutOfBoundsException` if there is no such setting")
        static void noSuchSetting() {
            refused(Checks::busy, INDEX, "set(-1, 1)", x -> x.set(-1, 1));
            refused(Checks::busy, INDEX, "set(3, 1)", x -> x.set(3, 1));
            refused(Checks::busy, INDEX, "set(3, 501)", x -> x.set(3, 501));
            refused(Checks::busy, INDEX, "set(-1, -1)", x -> x.set(-1, -1));
        }

        @Says("Throws `IllegalArgumentException` if value is out of range")
        static void valueOutOfRange() {
            refused(Checks::busy, ARGUMENT, "set(0, -1)", x -> x.set(0, -1));
            refused(Checks::busy, ARGUMENT, "set(0, 501)", x -> x.set(0, 501));
            refused(Checks::busy, ARGUMENT, "set(1, -1)", x -> x.set(1, -1));
            refused(Checks::busy, ARGUMENT, "set(1, 2)", x -> x.set(1, 2));
            refused(Checks::busy, ARGUMENT, "set(2, 0)", x -> x.set(2, 0));
            refused(Checks::busy, ARGUMENT, "set(2, 5)", x -> x.set(2, 5));
        }
    }
}
