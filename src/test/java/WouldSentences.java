/** Tests by sentence: promises 21 to 26: offBy, turned, bestWay, mends, trueShare, digest. */
final class WouldSentences extends Checks {

    /**
     * The way of the fewest steps, but at least so many, and of several that of the lowest numbers, where there
     * are the tables of a set; null if there is none.
     */
    private static int[] firstWay(int set, int from, int to, int leastSteps) {
        for (int steps = leastSteps; steps <= 4; steps++) {
            int[] way = new int[steps + 1];
            way[0] = from;
            if (goesOn(set, way, 1, to)) {
                return way;
            }
        }
        return null;
    }

    /** Goes on with a way whose first parishes are there, the lowest next parish first, up to its end. */
    private static boolean goesOn(int set, int[] way, int size, int to) {
        if (size == way.length) {
            return way[size - 1] == to;
        }
        for (int next = 0; next < 5; next++) {
            boolean isEnd = next == to;
            if (isEnd == (size == way.length - 1) && !isAmong(next, way, size) && isInSet(set, way[size - 1], next)) {
                way[size] = next;
                if (goesOn(set, way, size + 1, to)) {
                    return true;
                }
            }
        }
        return false;
    }

    @Section("Promise 21: offBy")
    static final class OffBy {
        private static final String TELLS = "Tells which ring would be off by a table.";
        private static final String FIRST = "Returns the parishes, as ring() tells with 1, of the first ring with this "
                + "table that would be off; 0 if none would be.";

        @Says(TELLS)
        static void nothingIsSetByIt() {
            changesNothing(Checks::busy, "offBy(0, 1, 99, 1)", x -> x.offBy(0, 1, 99, 1));
            changesNothing(Checks::busy, "offBy(0, 4, 1, 1)", x -> x.offBy(0, 4, 1, 1));
            ParishYards x = chain();
            x.offBy(0, 2, 1, 1);
            due("tables", x.count(0), 4);
            due("rings", x.count(1), 0);
        }

        @Says(TELLS)
        static void itTellsWhatTableWouldRefuse() {
            for (int up = 90; up <= 99; up++) {
                int one = up;
                int off = ringBy(200, 1, 1).offBy(1, 2, up, 95);
                if (off == 0) {
                    due("table(1, 2, " + up + ", 95)", ringBy(200, 1, 1).table(1, 2, up, 95), 1);
                } else {
                    due("the ring", off, 12);
                    refused(() -> ringBy(200, 1, 1), STATE, "table with " + up, x -> x.table(1, 2, one, 95));
                }
            }
        }

        @Says("- `from`: 0 to 4")
        static void fromIs0To4() {
            bounds(Checks::busy, INDEX, "offBy(_, .., 1, 2)", (x, v) -> x.offBy(v, other(v), 1, 2), 0, 4);
        }

        @Says("- `to`: 0 to 4")
        static void toIs0To4() {
            bounds(Checks::busy, INDEX, "offBy(.., _, 1, 2)", (x, v) -> x.offBy(other(v), v, 1, 2), 0, 4);
        }

        @Says("- `up`: 1 to 99")
        static void upIs1To99() {
            bounds(Checks::busy, ARGUMENT, "offBy(0, 1, _, 7)", (x, v) -> x.offBy(0, 1, v, 7), 1, 99);
        }

        @Says("- `down`: 1 to 99")
        static void downIs1To99() {
            bounds(Checks::busy, ARGUMENT, "offBy(0, 1, 7, _)", (x, v) -> x.offBy(0, 1, 7, v), 1, 99);
        }

        @Says(FIRST)
        static void theFirstInTheOrderOfRingsIsTold() {
            due("of all of 0 and 1", allTables().offBy(0, 1, 2, 1), 12);
            due("of all of 4 and 3", allTables().offBy(4, 3, 2, 1), 34);
            due("of all of 2 and 1", allTables().offBy(2, 1, 1, 2), 12);
            due("of all of 3 and 1", allTables().offBy(3, 1, 1, 2), 13);
            ParishYards x = allTables();
            x.drop(0, 3);
            x.drop(0, 4);
            due("without 034", x.offBy(3, 4, 2, 1), 134);
            x.drop(1, 3);
            x.drop(1, 4);
            due("without 134", x.offBy(3, 4, 2, 1), 234);
        }

        @Says(FIRST)
        static void aRingOfFourOrFiveIsToldIfNoneOfFewerIsOff() {
            ParishYards x = chain();
            due("of four", x.offBy(3, 0, 2, 1), 123);
            due("of four", x.offBy(1, 4, 2, 1), 1234);
            due("of five", x.offBy(0, 4, 2, 1), 1234);
            x.table(0, 4, 1, 1);
            due("of five, before it is set", x.offBy(2, 3, 2, 1), 1234);
            x.table(0, 2, 1, 1);
            due("of four before five", x.offBy(2, 3, 2, 1), 234);
            due("of three before five", x.offBy(0, 1, 2, 1), 12);
        }

        @Says(FIRST)
        static void ringsBeforeItThatAreNotOffArePassedOver() {
            ParishYards x = new ParishYards();
            x.set(0, 500);
            x.table(0, 2, 50, 49);
            x.table(2, 1, 1, 1);
            x.table(0, 3, 1, 1);
            x.table(3, 1, 1, 1);
            x.set(0, 210);
            due("ring 012 gains 204 less, 013 nothing", x.offBy(0, 1, 1, 1), 0);
            due("ring 012 gains nothing, 013 204", x.offBy(0, 1, 50, 49), 0);
            due("ring 013 is off alone", x.offBy(0, 1, 25, 24), 13);
        }

        @Says(FIRST)
        static void ringsWithoutThisTableDoNotCount() {
            ParishYards x = losing();
            x.set(0, 0);
            due("a table of no ring", x.offBy(3, 4, 9, 7), 0);
            due("a table that would mend the ring", x.offBy(2, 0, 1, 1), 0);
            due("a table of the ring", x.offBy(1, 2, 1, 1), 12);
            due("no ring", chain().offBy(0, 1, 99, 1), 0);
            due("no tables", new ParishYards().offBy(0, 1, 99, 1), 0);
        }

        @Says(FIRST)
        static void aGainOfJustSetting0IsNotOff() {
            ParishYards x = ringBy(102, 1, 1);
            due("102 by 102", x.offBy(2, 0, 99, 98), 0);
            due("-102 by 102", x.offBy(2, 0, 98, 99), 0);
            x.set(0, 101);
            due("102 by 101", x.offBy(2, 0, 99, 98), 12);
            due("-102 by 101", x.offBy(2, 0, 98, 99), 12);
            x.set(0, 500);
            due("500 by 500", x.offBy(2, 0, 21, 20), 0);
            due("-500 by 500", x.offBy(2, 0, 19, 20), 0);
            x.set(0, 499);
            due("500 by 499", x.offBy(2, 0, 21, 20), 12);
            due("-500 by 499", x.offBy(2, 0, 19, 20), 12);
        }

        @Says("Throws `IndexOutOfBoundsException` if there is no such parish")
        static void noSuchParish() {
            refused(Checks::busy, INDEX, "offBy(-1, 0, 1, 1)", x -> x.offBy(-1, 0, 1, 1));
            refused(Checks::busy, INDEX, "offBy(0, 5, 1, 1)", x -> x.offBy(0, 5, 1, 1));
            refused(Checks::busy, INDEX, "offBy(5, 5, 1, 1)", x -> x.offBy(5, 5, 1, 1));
            refused(Checks::busy, INDEX, "offBy(0, 5, 0, 100)", x -> x.offBy(0, 5, 0, 100));
        }

        private static final String SAME =
                "Throws `IllegalArgumentException` if both are the same, or up or down is out of range";

        @Says(SAME)
        static void bothAreTheSame() {
            refusedForEachParish(Checks::busy, ARGUMENT, "offBy of _ and itself",
                    (x, v) -> x.offBy(v, v, 1, 1));
        }

        @Says(SAME)
        static void upOrDownIsOutOfRange() {
            refused(Checks::busy, ARGUMENT, "up 0", x -> x.offBy(0, 1, 0, 1));
            refused(Checks::busy, ARGUMENT, "up 100", x -> x.offBy(0, 1, 100, 1));
            refused(Checks::busy, ARGUMENT, "down 0", x -> x.offBy(0, 1, 1, 0));
            refused(Checks::busy, ARGUMENT, "down 100", x -> x.offBy(0, 1, 1, 100));
        }
    }

    @Section("Promise 22: turned")
    static final class Turned {
        private static final String THERE = "Returns the length there; NONE if there is no table.";

        @Says("Turns a length by the table of two parishes.")
        static void aLengthIsTurnedEachWayAround() {
            ParishYards x = oneTable(3, 2);
            due("5 by 3 / 2", x.turned(0, 1, 5), 8);
            due("5 by 2 / 3", x.turned(1, 0, 5), 3);
            x.set(1, 1);
            due("5 by 3 / 2, rounded down", x.turned(0, 1, 5), 7);
            due("5 by 2 / 3, rounded down", x.turned(1, 0, 5), 3);
            changesNothing(Checks::busy, "turned(0, 1, 9)", y -> y.turned(0, 1, 9));
        }

        @Says("- `from`: 0 to 4")
        static void fromIs0To4() {
            bounds(Checks::busy, INDEX, "turned(_, .., 9)", (x, v) -> x.turned(v, other(v), 9), 0, 4);
        }

        @Says("- `to`: 0 to 4")
        static void toIs0To4() {
            bounds(Checks::busy, INDEX, "turned(.., _, 9)", (x, v) -> x.turned(other(v), v, 9), 0, 4);
        }

        @Says("- `length`: 0 to 99999")
        static void theLengthIs0To99999() {
            bounds(Checks::busy, ARGUMENT, "turned(0, 1, _)", (x, v) -> x.turned(0, 1, v), 0, 99999);
            due("0", oneTable(99, 1).turned(0, 1, 0), 0);
            due("99999 by 1 / 99", oneTable(1, 99).turned(0, 1, 99999), 1010);
        }

        @Says(THERE)
        static void theLengthThereMayBeAbove99999() {
            due("100000", oneTable(50, 1).turned(0, 1, 2000), 100000);
            due("99999 by 99", oneTable(99, 1).turned(0, 1, 99999), 9899901);
        }

        @Says(THERE)
        static void noneIfThereIsNoTable() {
            due("no table", oneTable(1, 1).turned(0, 2, 5), NONE);
            due("no table, though there is a way", chain().turned(0, 2, 5), NONE);
            due("no table, length 0", new ParishYards().turned(3, 4, 0), NONE);
            due("length 0 by a table", oneTable(1, 1).turned(0, 1, 0), 0);
        }

        @Says("Throws `IndexOutOfBoundsException` if there is no such parish")
        static void noSuchParish() {
            refused(Checks::busy, INDEX, "turned(-1, 0, 1)", x -> x.turned(-1, 0, 1));
            refused(Checks::busy, INDEX, "turned(0, 5, 1)", x -> x.turned(0, 5, 1));
            refused(Checks::busy, INDEX, "turned(5, 5, 1)", x -> x.turned(5, 5, 1));
            refused(Checks::busy, INDEX, "turned(0, 5, -1)", x -> x.turned(0, 5, -1));
        }

        @Says("Throws `IllegalArgumentException` if both are the same, or length is out of range")
        static void bothTheSameOrLengthOutOfRange() {
            refusedForEachParish(Checks::busy, ARGUMENT, "turned of _ and itself",
                    (x, v) -> x.turned(v, v, 1));
            refused(Checks::busy, ARGUMENT, "turned(0, 1, -1)", x -> x.turned(0, 1, -1));
            refused(Checks::busy, ARGUMENT, "turned(0, 1, 100000)", x -> x.turned(0, 1, 100000));
            refused(Checks::busy, ARGUMENT, "turned(0, 4, 100000), without a table", x -> x.turned(0, 4, 100000));
        }
    }

    @Section("Promise 23: bestWay")
    static final class BestWay {
        private static final String FINDS = "Finds the way by which a length keeps best: of the ways of tables from one "
                + "parish to another one, that come to no parish twice, with at most setting 2 steps, the one for which "
                + "what is gained at all steps, each without its sign, is the least together (whatever lengths come on the "
                + "way); of several that of the fewest steps, of several of those by the numbers of parishes.";
        private static final String TOLD = "Returns the parishes of the way, as ring() tells with 1, from the first to the "
                + "last one, and 100000 more; NONE if there is no way.";

        @Says(FINDS)
        static void aWayComesToNoParishTwice() {
            ParishYards x = oneTable(1, 2);
            x.table(0, 2, 1, 9);
            due("0 2 0 1 would gain 334 in place of 500", x.bestWay(0, 1, 3), 100001);
            ParishYards y = oneTable(1, 2);
            y.table(1, 2, 1, 9);
            due("0 1 2 1 is no way", y.bestWay(0, 1, 3), 100001);
        }

        @Says(FINDS)
        static void aWayHasAtMostSetting2Steps() {
            ParishYards x = chain();
            for (int most = 1; most <= 4; most++) {
                x.set(2, most);
                due("one step by " + most, x.bestWay(1, 2, 5), 100012);
                due("two steps by " + most, x.bestWay(1, 3, 5), most < 2 ? NONE : 100123);
                due("three steps by " + most, x.bestWay(4, 1, 5), most < 3 ? NONE : 104321);
                due("four steps by " + most, x.bestWay(0, 4, 5), most < 4 ? NONE : 101234);
            }
        }

        @Says(FINDS)
        static void aLongerWayThatKeepsBetterIsLeftOutByItsSteps() {
            ParishYards x = new ParishYards();
            x.set(0, 500);
            x.table(0, 1, 34, 99);
            x.table(0, 2, 1, 1);
            x.table(2, 3, 1, 1);
            x.table(3, 4, 1, 1);
            x.table(4, 1, 1, 3);
            due("34.34 loses 344; 33.33 loses 334", x.bestWay(0, 1, 100), 102341);
            x.set(2, 3);
            due("at most three steps", x.bestWay(0, 1, 100), 100001);
        }

        @Says(FINDS)
        static void whatIsGainedCountsWithoutItsSign() {
            ParishYards x = new ParishYards();
            x.set(0, 500);
            x.table(0, 1, 1, 3);
            x.table(0, 2, 1, 2);
            x.table(2, 1, 40, 63);
            due("4.33 loses 334; 6.5 gains 500 and 4.44 loses 445", x.bestWay(0, 1, 13), 100001);
        }

        @Says(FINDS)
        static void aGainIsRoundedDownBeforeItsSignIsLeftOut() {
            ParishYards x = new ParishYards();
            x.set(0, 500);
            x.table(0, 1, 1, 3);
            x.table(0, 2, 2, 3);
            x.table(2, 1, 34, 67);
            due("33.33 loses 334; 66.67 gains 333", x.bestWay(0, 1, 100), 100021);
        }

        @Says(FINDS)
        static void aLengthIsRoundedAtEachStepBySetting1() {
            ParishYards x = new ParishYards();
            x.set(0, 500);
            x.table(0, 1, 1, 3);
            x.table(0, 2, 2, 3);
            x.table(2, 1, 34, 67);
            x.set(1, 1);
            due("33.33 loses 334; 66.67 loses 667", x.bestWay(0, 1, 100), 100001);
        }

        @Says(FINDS)
        static void lengthsAbove99999OnTheWayAreNoBar() {
            ParishYards x = new ParishYards();
            x.table(0, 1, 99, 1);
            x.table(1, 2, 99, 1);
            x.table(2, 3, 99, 1);
            x.table(3, 4, 99, 1);
            due("9999 by 99 four times", x.bestWay(0, 4, 9999), 101234);
            ParishYards y = new ParishYards();
            y.set(0, 500);
            y.table(0, 1, 99, 1);
            y.table(1, 2, 98, 97);
            y.table(0, 3, 98, 1);
            y.table(3, 2, 99, 97);
            y.table(0, 4, 99, 1);
            y.table(4, 2, 1, 1);
            due("989901 by 98 / 97 and 979902 by 99 / 97; 989901 keeps", y.bestWay(0, 2, 9999), 100042);
            y.drop(4, 2);
            due("both gain the same", y.bestWay(0, 2, 9999), 100012);
        }

        @Says(FINDS)
        static void lengthsAboveAnIntDoNotWrapAround() {
            ParishYards x = new ParishYards();
            x.set(0, 500);
            x.table(0, 1, 99, 1);
            x.table(1, 2, 99, 1);
            x.table(2, 4, 99, 4);
            x.table(1, 3, 98, 1);
            x.table(3, 4, 25, 1);
            due("2425262350.5 gains 500; just 2425014900", x.bestWay(0, 4, 9998), 100134);
        }

        @Says(FINDS)
        static void ofSeveralThatOfTheFewestSteps() {
            ParishYards x = new ParishYards();
            x.table(0, 1, 1, 1);
            x.table(1, 2, 1, 1);
            x.table(0, 2, 1, 1);
            due("one step before two", x.bestWay(0, 2, 5), 100002);
            ParishYards y = chain();
            y.table(0, 3, 1, 1);
            due("two steps before four", y.bestWay(0, 4, 5), 100034);
            y.drop(0, 3);
            y.table(0, 2, 1, 1);
            due("three steps before four", y.bestWay(0, 4, 5), 100234);
        }

        @Says(FINDS)
        static void ofSeveralOfThoseByTheNumbersOfParishes() {
            ParishYards x = allTables();
            x.drop(0, 4);
            due("0 1 4", x.bestWay(0, 4, 5), 100014);
            x.drop(1, 4);
            due("0 2 4", x.bestWay(0, 4, 5), 100024);
            x.drop(2, 4);
            due("0 3 4", x.bestWay(0, 4, 5), 100034);
            x.drop(0, 3);
            due("0 1 3 4", x.bestWay(0, 4, 5), 100134);
            due("4 3 1 0", x.bestWay(4, 0, 5), 104310);
            x.drop(1, 3);
            due("0 2 3 4", x.bestWay(0, 4, 5), 100234);
            x.drop(0, 2);
            due("0 1 2 3 4", x.bestWay(0, 4, 5), 101234);
        }

        @Says(FINDS)
        static void ofWaysThatLoseTheSameTheFirstStays() {
            ParishYards x = new ParishYards();
            x.set(0, 500);
            x.table(0, 3, 1, 3);
            x.table(3, 1, 1, 1);
            x.table(0, 2, 1, 1);
            x.table(2, 1, 1, 3);
            due("both lose 334", x.bestWay(0, 1, 100), 100021);
            due("from the other end", x.bestWay(1, 0, 100), 100120);
        }

        @Says(FINDS)
        static void eachWayThatThereCanBeIsFound() {
            eachWay(new int[5], 0);
        }

        /** Puts parishes behind those of a way, each time another one, and looks for it where it is the only one. */
        private static void eachWay(int[] stops, int size) {
            if (size >= 2) {
                ParishYards x = new ParishYards();
                int number = stops[0];
                for (int i = 1; i < size; i++) {
                    x.table(stops[i - 1], stops[i], 1, 1);
                    number = number * 10 + stops[i];
                }
                due("the only way", x.bestWay(stops[0], stops[size - 1], 5), 100000 + number);
            }
            for (int next = 0; next < 5 && size < 5; next++) {
                if (!isAmong(next, stops, size)) {
                    stops[size] = next;
                    eachWay(stops, size + 1);
                }
            }
        }

        @Says(FINDS)
        static void ofEachSetOfTablesTheFirstWayInOrderIsFound() {
            for (int set = 0; set < 1024; set++) {
                ParishYards x = setOfTables(set);
                for (int from = 0; from < 5; from++) {
                    for (int to = 0; to < 5; to++) {
                        if (from != to) {
                            int[] way = firstWay(set, from, to, 1);
                            int want = way == null ? NONE : 100000 + number(way);
                            due("bestWay(" + from + ", " + to + ", 7) with set " + set, x.bestWay(from, to, 7), want);
                        }
                    }
                }
            }
        }

        @Says("- `from`: 0 to 4")
        static void fromIs0To4() {
            bounds(Checks::busy, INDEX, "bestWay(_, .., 9)", (x, v) -> x.bestWay(v, other(v), 9), 0, 4);
        }

        @Says("- `to`: 0 to 4")
        static void toIs0To4() {
            bounds(Checks::busy, INDEX, "bestWay(.., _, 9)", (x, v) -> x.bestWay(other(v), v, 9), 0, 4);
        }

        @Says("- `length`: 0 to 9999")
        static void theLengthIs0To9999() {
            bounds(Checks::busy, ARGUMENT, "bestWay(0, 1, _)", (x, v) -> x.bestWay(0, 1, v), 0, 9999);
            due("0 loses nothing by any way", allTables().bestWay(4, 1, 0), 100041);
            due("9999", allTables().bestWay(4, 1, 9999), 100041);
        }

        @Says(TOLD)
        static void theParishesAreToldFromTheFirstToTheLast() {
            due("0 1", chain().bestWay(0, 1, 5), 100001);
            due("1 0", chain().bestWay(1, 0, 5), 100010);
            due("0 1 2 3 4", chain().bestWay(0, 4, 5), 101234);
            due("4 3 2 1 0", chain().bestWay(4, 0, 5), 143210);
        }

        @Says(TOLD)
        static void noneIfThereIsNoWay() {
            due("no tables", new ParishYards().bestWay(0, 1, 5), NONE);
            due("no table there", oneTable(1, 1).bestWay(0, 2, 5), NONE);
            due("no table from there", oneTable(1, 1).bestWay(2, 0, 0), NONE);
            ParishYards x = chain();
            x.drop(2, 3);
            due("two parts", x.bestWay(0, 4, 5), NONE);
        }

        @Says("Throws `IndexOutOfBoundsException` if there is no such parish")
        static void noSuchParish() {
            refused(Checks::busy, INDEX, "bestWay(-1, 0, 1)", x -> x.bestWay(-1, 0, 1));
            refused(Checks::busy, INDEX, "bestWay(0, 5, 1)", x -> x.bestWay(0, 5, 1));
            refused(Checks::busy, INDEX, "bestWay(5, 5, 1)", x -> x.bestWay(5, 5, 1));
            refused(Checks::busy, INDEX, "bestWay(0, 5, -1)", x -> x.bestWay(0, 5, -1));
        }

        @Says("Throws `IllegalArgumentException` if both are the same, or length is out of range")
        static void bothTheSameOrLengthOutOfRange() {
            refusedForEachParish(Checks::busy, ARGUMENT, "bestWay of _ and itself",
                    (x, v) -> x.bestWay(v, v, 1));
            refused(Checks::busy, ARGUMENT, "bestWay(0, 1, -1)", x -> x.bestWay(0, 1, -1));
            refused(Checks::busy, ARGUMENT, "bestWay(0, 1, 10000)", x -> x.bestWay(0, 1, 10000));
            refused(Checks::busy, ARGUMENT, "bestWay(0, 4, 10000), without a way", x -> x.bestWay(0, 4, 10000));
        }
    }

    @Section("Promise 24: mends")
    static final class Mends {
        private static final String FINDS = "Finds the fraction that would mend a pair: the product of the tables on the "
                + "way of the fewest steps between both (whatever setting 2 is) that does not have their own table (of "
                + "several by the numbers of parishes), in lowest terms.";
        private static final String NUMBER =
                "Returns the number; NONE if there is no way, or up or down would be above 99.";

        /** Up times 100 and down, or NONE. */
        private static int fraction(ParishYards x, int from, int to) {
            int up = x.mends(from, to, 0);
            int down = x.mends(from, to, 1);
            return up == NONE && down == NONE ? NONE : up * 100 + down;
        }

        @Says(FINDS)
        static void theirOwnTableIsNoWay() {
            due("their own table alone", fraction(oneTable(3, 2), 0, 1), NONE);
            due("beside a way that gains", fraction(losing(), 2, 0), 101);
            due("the own table of another pair counts", fraction(losing(), 0, 1), 9998);
        }

        @Says(FINDS)
        static void theFewestStepsWhateverSetting2Is() {
            for (int most = 1; most <= 4; most++) {
                ParishYards x = new ParishYards();
                x.set(0, 500);
                x.set(2, most);
                x.table(0, 1, 51, 50);
                x.table(1, 2, 1, 1);
                x.table(2, 3, 1, 1);
                x.table(3, 4, 1, 1);
                due("four steps", fraction(x, 0, 4), 5150);
                x.table(0, 2, 1, 1);
                due("three steps", fraction(x, 0, 4), 101);
                x.table(0, 3, 52, 51);
                due("two steps", fraction(x, 0, 4), 5251);
                x.table(0, 4, 1, 1);
                due("two steps, not one", fraction(x, 0, 4), 5251);
            }
        }

        @Says(FINDS)
        static void ofSeveralByTheNumbersOfParishes() {
            ParishYards x = new ParishYards();
            x.set(0, 500);
            x.table(0, 3, 53, 52);
            x.table(3, 4, 1, 1);
            due("0 3 4", fraction(x, 0, 4), 5352);
            x.table(0, 2, 52, 51);
            x.table(2, 4, 1, 1);
            due("0 2 4", fraction(x, 0, 4), 5251);
            due("4 2 0", fraction(x, 4, 0), 5152);
            x.table(0, 1, 51, 50);
            x.table(1, 4, 1, 1);
            due("0 1 4", fraction(x, 0, 4), 5150);
            ParishYards y = new ParishYards();
            y.set(0, 500);
            y.table(0, 2, 51, 50);
            y.table(2, 3, 1, 1);
            y.table(3, 4, 1, 1);
            due("0 2 3 4", fraction(y, 0, 4), 5150);
            y.table(0, 1, 1, 1);
            y.table(1, 3, 1, 1);
            due("0 1 3 4", fraction(y, 0, 4), 101);
        }

        @Says(FINDS)
        static void ofEachSetOfTablesTheFirstWayInOrderMends() {
            for (int set = 0; set < 1024; set++) {
                for (int odd = 0; odd < 10; odd++) {
                    if ((set >> odd & 1) == 1) {
                        dueMends(set, PAIRS[odd] / 10, PAIRS[odd] % 10);
                    }
                }
            }
        }

        /** All tables of a set are 1 to 1 but for an odd one, so that a product tells if the way has it. */
        private static void dueMends(int set, int a, int b) {
            ParishYards x = setOfTables(set);
            x.set(0, 500);
            x.table(a, b, 51, 50);
            for (int from = 0; from < 5; from++) {
                for (int to = 0; to < 5; to++) {
                    if (from != to) {
                        int[] way = firstWay(set, from, to, 2);
                        int want = way == null ? NONE : goes(way, a, b) ? 5150 : goes(way, b, a) ? 5051 : 101;
                        due("mends " + from + " " + to + " with set " + set, fraction(x, from, to), want);
                    }
                }
            }
        }

        private static boolean goes(int[] way, int a, int b) {
            boolean found = false;
            for (int i = 1; i < way.length; i++) {
                found = found || way[i - 1] == a && way[i] == b;
            }
            return found;
        }

        @Says(FINDS)
        static void inLowestTerms() {
            ParishYards x = oneTable(98, 49);
            x.table(1, 2, 9, 27);
            due("2 / 3", fraction(x, 0, 2), 203);
            due("3 / 2 back", fraction(x, 2, 0), 302);
            x.table(1, 2, 27, 54);
            due("1 / 1", fraction(x, 0, 2), 101);
            ParishYards y = oneTable(99, 98);
            y.table(1, 2, 98, 97);
            y.table(2, 3, 97, 96);
            y.table(3, 4, 96, 99);
            due("99 98 97 96 / 98 97 96 99", fraction(y, 0, 4), 101);
        }

        @Says("- `from`: 0 to 4")
        static void fromIs0To4() {
            bounds(Checks::busy, INDEX, "mends(_, .., 1)", (x, v) -> x.mends(v, other(v), 1), 0, 4);
        }

        @Says("- `to`: 0 to 4")
        static void toIs0To4() {
            bounds(Checks::busy, INDEX, "mends(.., _, 1)", (x, v) -> x.mends(other(v), v, 1), 0, 4);
        }

        @Says("- `what`: 0: its up; 1: its down")
        static void whatIs0Or1() {
            bounds(Checks::busy, ARGUMENT, "mends(0, 1, _)", (x, v) -> x.mends(0, 1, v), 0, 1);
            ParishYards x = oneTable(3, 2);
            x.table(1, 2, 1, 1);
            due("its up", x.mends(0, 2, 0), 3);
            due("its down", x.mends(0, 2, 1), 2);
            changesNothing(Checks::busy, "mends(0, 1, 0)", y -> y.mends(0, 1, 0));
        }

        @Says(NUMBER)
        static void noneIfThereIsNoWay() {
            due("no tables", fraction(new ParishYards(), 0, 1), NONE);
            due("no other table than their own", fraction(oneTable(1, 1), 0, 1), NONE);
            due("no way there", fraction(chain(), 0, 1), NONE);
            due("a way there", fraction(chain(), 0, 2), 101);
        }

        @Says(NUMBER)
        static void noneIfUpOrDownWouldBeAbove99() {
            int[][] told = {{99, 1, 1, 1, 9901}, {10, 1, 10, 1, NONE}, {9, 1, 11, 1, 9901}, {99, 1, 2, 1, NONE},
                {99, 1, 99, 99, 9901}, {99, 98, 99, 98, NONE}, {99, 98, 98, 97, 9997}, {10, 1, 99, 10, 9901}};
            for (int[] one : told) {
                ParishYards x = oneTable(one[0], one[1]);
                x.table(1, 2, one[2], one[3]);
                int back = one[4] == NONE ? NONE : one[4] % 100 * 100 + one[4] / 100;
                due(one[0] + "/" + one[1] + " " + one[2] + "/" + one[3], fraction(x, 0, 2), one[4]);
                due("the other way around", fraction(x, 2, 0), back);
            }
        }

        @Says(NUMBER)
        static void bothAreNoneIfOneOfThemWouldBeAbove99() {
            ParishYards x = oneTable(10, 1);
            x.table(1, 2, 10, 1);
            due("up 100", x.mends(0, 2, 0), NONE);
            due("down 1 of 100", x.mends(0, 2, 1), NONE);
            due("up 1 of 1 / 100", x.mends(2, 0, 0), NONE);
            due("down 100", x.mends(2, 0, 1), NONE);
        }

        @Says(NUMBER)
        static void ifTheFirstWayIsAbove99NoOtherWayIsTaken() {
            ParishYards x = new ParishYards();
            x.set(0, 500);
            x.table(0, 1, 50, 49);
            x.table(1, 4, 50, 49);
            due("2500 / 2401", fraction(x, 0, 4), NONE);
            x.table(0, 2, 1, 1);
            x.table(2, 4, 1, 1);
            due("2500 / 2401 before 1 / 1", fraction(x, 0, 4), NONE);
            x.drop(1, 4);
            due("1 / 1 alone", fraction(x, 0, 4), 101);
        }

        @Says(NUMBER)
        static void aProductOfFourTablesIsNotCutOff() {
            ParishYards x = oneTable(99, 1);
            x.table(1, 2, 99, 1);
            x.table(2, 3, 99, 1);
            x.table(3, 4, 99, 1);
            due("99 99 99 99", fraction(x, 0, 4), NONE);
            x.table(2, 3, 1, 99);
            x.table(3, 4, 1, 98);
            due("99 99 / 99 98", fraction(x, 0, 4), 9998);
        }

        @Says("Throws `IndexOutOfBoundsException` if there is no such parish")
        static void noSuchParish() {
            refused(Checks::busy, INDEX, "mends(-1, 0, 0)", x -> x.mends(-1, 0, 0));
            refused(Checks::busy, INDEX, "mends(0, 5, 0)", x -> x.mends(0, 5, 0));
            refused(Checks::busy, INDEX, "mends(5, 5, 0)", x -> x.mends(5, 5, 0));
            refused(Checks::busy, INDEX, "mends(0, 5, 2)", x -> x.mends(0, 5, 2));
        }

        @Says("Throws `IllegalArgumentException` if both are the same, or what is neither 0 nor 1")
        static void bothTheSameOrWhatOutOfRange() {
            refusedForEachParish(Checks::busy, ARGUMENT, "mends of _ and itself",
                    (x, v) -> x.mends(v, v, 0));
            refused(Checks::busy, ARGUMENT, "mends(0, 1, -1)", x -> x.mends(0, 1, -1));
            refused(Checks::busy, ARGUMENT, "mends(0, 1, 2)", x -> x.mends(0, 1, 2));
            refused(Checks::busy, ARGUMENT, "mends(0, 4, 2), without a way", x -> x.mends(0, 4, 2));
        }
    }

    @Section("Promise 25: trueShare")
    static final class TrueShare {
        @Says("Returns how many rings are not off.")
        static void ringsThatAreNotOffAreCounted() {
            ParishYards x = ringBy(102, 98, 99);
            dueShare("-102 by 102", x.trueShare(), 1.0);
            x.set(0, 101);
            dueShare("-102 by 101", x.trueShare(), 0.0);
            dueShare("not sound, but not off", hairy().trueShare(), 1.0);
            changesNothing(Checks::busy, "trueShare()", ParishYards::trueShare);
        }

        @Says("Returns these, as a double, divided by all rings; 1.0 without rings.")
        static void theShareOfAllRings() {
            ParishYards x = allTables();
            dueShare("37 of 37", x.trueShare(), 1.0);
            x.set(0, 102);
            x.table(0, 1, 98, 99);
            x.set(0, 0);
            dueShare("22 of 37", x.trueShare(), 22.0 / 37.0);
            x.drop(2, 3);
            dueShare("rings without 2 3", x.trueShare(), (double) (x.count(1) - x.count(2)) / x.count(1));
        }

        @Says("Returns these, as a double, divided by all rings; 1.0 without rings.")
        static void withoutRingsItIs1() {
            dueShare("no tables", new ParishYards().trueShare(), 1.0);
            dueShare("four tables", chain().trueShare(), 1.0);
            ParishYards x = losing();
            x.set(0, 0);
            dueShare("a ring that is off", x.trueShare(), 0.0);
            x.drop(0, 1);
            dueShare("the ring is open", x.trueShare(), 1.0);
        }
    }

    @Section("Promise 26: digest")
    static final class Digest {
        private static final String OF_PAIRS = "for each two parishes a and b, a below b, by their numbers: tableOf with 0 "
                + "to 2, mends with 0 and 1, and bestWay of the length 100";

        private static void dueDigest(String state, ParishYards x, String buffer) {
            due("digest of " + state, x.digest(), digestOf(x, buffer));
        }

        @Says("Computes a hash of the whole state.")
        static void allThatCanBeLookedAtChangesIt() {
            long before = small().digest();
            Deed[] deeds = {
                x -> x.stick(4, 37), x -> x.table(0, 1, 6, 4), x -> x.drop(0, 1), x -> x.set(0, 1), x -> x.set(1, 1),
                x -> x.set(2, 3), x -> x.bolt(4, 1), x -> x.send(0, 0), x -> x.sell(1), x -> x.append('!'),
                ParishYards::clearBuffer, ParishYards::undo
            };
            for (int i = 0; i < deeds.length; i++) {
                ParishYards x = small();
                deeds[i].on(x);
                due("the digest is another one after deed " + i, x.digest() == before ? 1 : 0, 0);
                due("the digest after deed " + i, x.digest(), digestOf(x, i == 9 ? "b0=7!" : i == 10 ? "" : "b0=7"));
            }
        }

        @Says("Computes a hash of the whole state.")
        static void itChangesNothing() {
            changesNothing(Checks::busy, "digest()", ParishYards::digest);
            ParishYards x = busy();
            due("the second time", x.digest(), x.digest());
        }

        @Says("The hash starts at 3851.")
        static void theDigestOfANewObject() {
            dueDigest("a new object", new ParishYards(), "");
        }

        @Says("For each value v of the following list, in order, the hash becomes 31 * hash + v, in long arithmetic with "
                + "overflow.")
        static void longArithmeticOverflows() {
            dueDigest("all tables", allTables(), "");
            dueDigest("much of all there is", busy(), "0>1=5");
            dueDigest("a full buffer", fullBuffer(), "b0=1;".repeat(12));
        }

        @Says("The values are: count(0) to count(17)")
        static void countsAreInIt() {
            ParishYards x = new ParishYards();
            for (int parish = 0; parish < 5; parish++) {
                x.stick(parish, 21 + parish);
            }
            x.bolt(2, 9999);
            x.sell(0);
            x.bolt(3, 5000);
            dueDigest("sticks and bolts", x, "");
        }

        @Says(OF_PAIRS)
        static void pairsAreInIt() {
            ParishYards x = new ParishYards();
            x.set(0, 500);
            x.table(0, 1, 34, 99);
            x.table(0, 2, 1, 1);
            x.table(2, 1, 1, 3);
            x.table(4, 3, 2, 4);
            dueDigest("tables and ways", x, "");
            x.set(2, 1);
            dueDigest("ways of one step", x, "");
            dueDigest("all tables but one", without34(), "");
        }

        private static ParishYards without34() {
            ParishYards x = allTables();
            x.drop(3, 4);
            return x;
        }

        @Says("for each ring its numbers 0 to 3")
        static void ringsAreInIt() {
            dueDigest("a ring that loses", losing(), "");
            dueDigest("a ring that gains", wide(), "");
            ParishYards x = losing();
            x.set(0, 101);
            dueDigest("a ring that is off", x, "");
            dueDigest("no ring", chain(), "");
        }

        @Says("for each bolt its numbers 0 to 3")
        static void boltsAreInIt() {
            dueDigest("eight bolts", eightBolts(), "");
            ParishYards x = oneTable(1, 3);
            x.bolt(0, 1);
            x.bolt(0, 2);
            x.send(0, 1);
            dueDigest("a bolt that was sent", x, "");
        }

        @Says("stopped with 0 and 1")
        static void theStopIsInIt() {
            ParishYards x = new ParishYards();
            told(x, "b0=1;s0>0");
            dueDigest("a stop", x, "");
            told(x, "b0=1");
            dueDigest("no stop", x, "");
        }

        @Says("offBy of 0 and 1 with 3 and 2; turned of 0 and 1 with 1000")
        static void whatWouldBeIsInIt() {
            ParishYards x = ringBy(0, 1, 1);
            dueDigest("a ring that would be off by 3 / 2", x, "");
            ParishYards y = oneTable(3, 2);
            y.table(1, 2, 1, 1);
            y.table(0, 2, 3, 2);
            dueDigest("a ring that would not", y, "");
            ParishYards z = oneTable(7, 3);
            dueDigest("1000 by 7 / 3", z, "");
            z.set(1, 1);
            dueDigest("1000 by 7 / 3, rounded down", z, "");
        }

        @Says("the bits of trueShare (as Double.doubleToLongBits)")
        static void theBitsOfTheShareAreInIt() {
            ParishYards x = losing();
            dueDigest("1.0", x, "");
            x.set(0, 101);
            dueDigest("0.0", x, "");
            ParishYards y = allTables();
            y.set(0, 102);
            y.table(0, 1, 98, 99);
            y.set(0, 0);
            dueDigest("22 of 37", y, "");
        }

        @Says("the bits of trueShare (as Double.doubleToLongBits)")
        static void theBitsOfEachShareOfManyAreInIt() {
            for (int a = 0; a < 5; a++) {
                for (int b = a + 1; b < 5; b++) {
                    ParishYards x = allTables();
                    x.set(0, 102);
                    x.table(0, 1, 98, 99);
                    x.set(0, 0);
                    x.drop(a, b);
                    dueDigest("a share of " + x.count(1), x, "");
                }
            }
        }

        @Says("the length of the buffer and each of its character codes.")
        static void theBufferIsInIt() {
            dueDigest("an empty buffer", new ParishYards(), "");
            dueDigest("a buffer of the least and the greatest code", type(new ParishYards(), "!~"), "!~");
            dueDigest("the same in another order", type(new ParishYards(), "~!"), "~!");
            ParishYards x = type(new ParishYards(), "abcdef");
            x.clearBuffer();
            dueDigest("a buffer that was cleared", x, "");
            type(x, "x");
            dueDigest("a shorter buffer after a longer one", x, "x");
        }

        @Says("Returns the hash.")
        static void theHashIsTold() {
            due("a new object", new ParishYards().digest(), digestOf(new ParishYards(), ""));
            due("the same calls give the same hash", busy().digest(), busy().digest());
        }
    }
}
