/** Tests by sentence: what it is, the face, terms, parishes and tables, settings, exceptions. */
final class TermSentences extends Checks {

    @Section("What it is")
    static final class WhatItIs {
        @Says("An object is used for at most 512 calls after it has been made")
        static void aBoltIsSentUpToThe511thCallAndToldByThe512th() {
            ParishYards x = new ParishYards();
            x.set(1, 1);
            x.table(0, 1, 99, 98);
            x.bolt(0, 9999);
            long length = 9999;
            long gain = 0;
            for (int call = 4; call <= 511; call++) {
                boolean there = call % 2 == 0;
                long up = there ? 99 : 98;
                long down = there ? 98 : 99;
                long next = Math.floorDiv(length * up, down);
                gain += Math.floorDiv((next * down - length * up) * 1000, down);
                due("send as call " + call, x.send(0, there ? 1 : 0), next);
                length = next;
            }
            due("boltOf(0, 2) as call 512", x.boltOf(0, 2), 1000000 + gain);
        }

        @Says("An object is used for at most 512 calls after it has been made")
        static void aBoltWasSentAsOftenAs509Times() {
            ParishYards x = oneTable(1, 1);
            x.bolt(0, 9999);
            for (int call = 3; call <= 511; call++) {
                x.send(0, call % 2);
            }
            due("boltOf(0, 3) as call 512", x.boltOf(0, 3), 509);
        }

        @Says("An object is used for at most 512 calls after it has been made")
        static void boltsAreSoldUpToThe511thCall() {
            ParishYards x = new ParishYards();
            for (int i = 0; i < 255; i++) {
                due("bolt", x.bolt(4, 9999), 0);
                due("sell", x.sell(0), 277);
            }
            x.bolt(4, 36);
            due("count(8) as call 512", x.count(8), 255);
        }

        @Says("An object is used for at most 512 calls after it has been made")
        static void the512thCallWorksAndUndoesLikeTheFirst() {
            ParishYards x = new ParishYards();
            for (int call = 1; call <= 502; call++) {
                due("stick as call " + call, x.stick(0, 20 + call % 41), call == 1 ? 36 : 20 + (call - 1) % 41);
            }
            type(x, "b0=9999");
            due("work() as call 510", x.work(), 1);
            due("undo() as call 511", x.undo(), 5);
            due("count(12) as call 512", x.count(12), 20 + 502 % 41);
        }
    }

    @Section("The public face")
    static final class PublicFace {
        @Says("public static final int NONE = -1;")
        static void noneIsMinusOne() {
            due("NONE", ParishYards.NONE, -1);
        }

        @Says("public ParishYards();")
        static void objectsHaveNothingInCommon() {
            ParishYards x = new ParishYards();
            long before = x.digest();
            ParishYards y = busy();
            y.keep();
            due("an object after another one's calls", x.digest(), before);
            dueThrown("restore() after another one's keep()", x, STATE, ParishYards::restore);
            dueThrown("undo() after another one's calls", x, STATE, ParishYards::undo);
        }
    }

    @Section("Terms")
    static final class Terms {
        private static final String DIVISIONS = "All numbers are integers, but for a share; divisions are rounded "
                + "down (towards the lesser number, also below 0), if it is not told otherwise.";

        @Says(DIVISIONS)
        static void theGainOfARingIsRoundedDown() {
            due("102.04", ringBy(102, 99, 98).ring(0, 2), 1000102);
            due("101.01 less", ringBy(102, 98, 99).ring(0, 2), 1000000 - 102);
            due("0.9996", hairy().ring(0, 2), 1000000);
            due("just 500", ringBy(500, 21, 20).ring(0, 2), 1000500);
            due("just 500 less", ringBy(500, 19, 20).ring(0, 2), 1000000 - 500);
        }

        @Says(DIVISIONS)
        static void whatABoltGainsIsRoundedDown() {
            due("333.33", sentGain(0, 2, 3, 1), 1000333);
            due("333.33 less", sentGain(0, 1, 3, 1), 1000000 - 334);
            due("just 500", sentGain(0, 1, 2, 1), 1000500);
            due("just 500 less", sentGain(1, 1, 2, 1), 1000000 - 500);
            due("666.67 less", sentGain(1, 2, 3, 1), 1000000 - 667);
        }

        /** What a bolt has gained by one sending. */
        private static int sentGain(int rounding, int up, int down, int length) {
            ParishYards x = oneTable(up, down);
            x.set(1, rounding);
            x.bolt(0, length);
            x.send(0, 1);
            return x.boltOf(0, 2);
        }

        @Says(DIVISIONS)
        static void wholeYardsticksAreRoundedDown() {
            ParishYards x = new ParishYards();
            x.bolt(0, 35);
            x.bolt(0, 36);
            x.bolt(0, 71);
            due("35 by 36", x.sell(0), 0);
            due("36 by 36", x.sell(0), 1);
            due("71 by 36", x.sell(0), 1);
        }

        @Says(DIVISIONS)
        static void aShareIsNoInteger() {
            ParishYards x = losing();
            x.table(1, 3, 1, 1);
            x.table(3, 2, 1, 1);
            x.set(0, 0);
            dueShare("one of three", x.trueShare(), 1.0 / 3.0);
        }
    }

    @Section("Parishes, tables")
    static final class ParishesTables {
        private static final String FIVE = "There are 5 parishes, numbered from 0.";
        private static final String STICK = "Each has a yardstick of 20 to 60 of its inches, at first 36.";
        private static final String TELLS =
                "A table of two parishes a and b tells that x inches of a are x times up, divided by down, inches of b";
        private static final String FACTORS = "up and down are 1 to 99 (as they were told; 2 by 4 stays so).";
        private static final String OTHER_WAY =
                "It is the other way around for b and a: up and down change places.";
        private static final String AT_MOST_ONE = "There is at most one table for two parishes; at first there is none.";

        @Says(FIVE)
        static void callsOfOneParishTake0To4() {
            bounds(Checks::busy, INDEX, "stick(_, 36)", (x, v) -> x.stick(v, 36), 0, 4);
            bounds(Checks::busy, INDEX, "bolt(_, 5)", (x, v) -> x.bolt(v, 5), 0, 4);
            bounds(ParishesTables::twoBolts, INDEX, "send(.., _)", (x, v) -> x.send(v == 0 ? 1 : 0, v), 0, 4);
        }

        /** All tables, bolt 0 in parish 0 and bolt 1 in parish 1. */
        private static ParishYards twoBolts() {
            ParishYards x = allTables();
            x.bolt(0, 7);
            x.bolt(1, 7);
            return x;
        }

        @Says(FIVE)
        static void callsOfTwoParishesTake0To4First() {
            bounds(ParishYards::new, INDEX, "table(_, ..)", (x, v) -> x.table(v, other(v), 1, 1), 0, 4);
            bounds(Checks::allTables, INDEX, "drop(_, ..)", (x, v) -> x.drop(v, other(v)), 0, 4);
            bounds(Checks::busy, INDEX, "tableOf(_, ..)", (x, v) -> x.tableOf(v, other(v), 0), 0, 4);
            bounds(Checks::busy, INDEX, "offBy(_, ..)", (x, v) -> x.offBy(v, other(v), 1, 1), 0, 4);
            bounds(Checks::busy, INDEX, "turned(_, ..)", (x, v) -> x.turned(v, other(v), 1), 0, 4);
            bounds(Checks::busy, INDEX, "bestWay(_, ..)", (x, v) -> x.bestWay(v, other(v), 1), 0, 4);
            bounds(Checks::busy, INDEX, "mends(_, ..)", (x, v) -> x.mends(v, other(v), 0), 0, 4);
        }

        @Says(FIVE)
        static void callsOfTwoParishesTake0To4Second() {
            bounds(ParishYards::new, INDEX, "table(.., _)", (x, v) -> x.table(other(v), v, 1, 1), 0, 4);
            bounds(Checks::allTables, INDEX, "drop(.., _)", (x, v) -> x.drop(other(v), v), 0, 4);
            bounds(Checks::busy, INDEX, "tableOf(.., _)", (x, v) -> x.tableOf(other(v), v, 0), 0, 4);
            bounds(Checks::busy, INDEX, "offBy(.., _)", (x, v) -> x.offBy(other(v), v, 1, 1), 0, 4);
            bounds(Checks::busy, INDEX, "turned(.., _)", (x, v) -> x.turned(other(v), v, 1), 0, 4);
            bounds(Checks::busy, INDEX, "bestWay(.., _)", (x, v) -> x.bestWay(other(v), v, 1), 0, 4);
            bounds(Checks::busy, INDEX, "mends(.., _)", (x, v) -> x.mends(other(v), v, 0), 0, 4);
        }

        @Says(STICK)
        static void aYardstickIsAtFirst36() {
            ParishYards x = new ParishYards();
            for (int parish = 0; parish < 5; parish++) {
                due("count of stick " + parish, x.count(12 + parish), 36);
                due("stick(" + parish + ", 60)", x.stick(parish, 60), 36);
            }
        }

        @Says(STICK)
        static void aYardstickIs20To60() {
            for (int inches = 20; inches <= 60; inches++) {
                ParishYards x = new ParishYards();
                x.stick(4, inches);
                due("the stick", x.count(16), inches);
            }
            bounds(Checks::busy, ARGUMENT, "stick(4, _)", (x, v) -> x.stick(4, v), 20, 60);
        }

        @Says(TELLS)
        static void inchesAreTurnedByUpAndDown() {
            due("0 by 3 / 2", oneTable(3, 2).turned(0, 1, 0), 0);
            due("4 by 3 / 2", oneTable(3, 2).turned(0, 1, 4), 6);
            due("99 by 1 / 99", oneTable(1, 99).turned(0, 1, 99), 1);
            due("1 by 99 / 1", oneTable(99, 1).turned(0, 1, 1), 99);
            due("99999 by 99 / 1", oneTable(99, 1).turned(0, 1, 99999), 99 * 99999);
            due("99 by 98 / 99", oneTable(98, 99).turned(0, 1, 99), 98);
        }

        @Says(FACTORS)
        static void upAndDownAre1To99() {
            bounds(ParishYards::new, ARGUMENT, "table(0, 1, _, 5)", (x, v) -> x.table(0, 1, v, 5), 1, 99);
            bounds(ParishYards::new, ARGUMENT, "table(0, 1, 5, _)", (x, v) -> x.table(0, 1, 5, v), 1, 99);
        }

        @Says(FACTORS)
        static void upAndDownAreAsTheyWereTold() {
            for (int[] told : new int[][] {{2, 4}, {4, 2}, {99, 99}, {1, 1}, {98, 49}, {1, 99}, {99, 1}}) {
                ParishYards x = oneTable(told[0], told[1]);
                due("up of " + told[0] + " / " + told[1], x.tableOf(0, 1, 0), told[0]);
                due("down of " + told[0] + " / " + told[1], x.tableOf(0, 1, 1), told[1]);
            }
        }

        @Says(OTHER_WAY)
        static void upAndDownChangePlaces() {
            ParishYards x = oneTable(2, 4);
            due("up", x.tableOf(1, 0, 0), 4);
            due("down", x.tableOf(1, 0, 1), 2);
            due("10 inches", x.turned(0, 1, 10), 5);
            due("10 inches back", x.turned(1, 0, 10), 20);
            x.bolt(1, 10);
            due("a bolt back", x.send(0, 0), 20);
            x.table(4, 3, 99, 1);
            due("the lesser parish first: up", x.tableOf(3, 4, 0), 1);
            due("the lesser parish first: down", x.tableOf(3, 4, 1), 99);
        }

        @Says(AT_MOST_ONE)
        static void atFirstThereIsNone() {
            ParishYards x = new ParishYards();
            for (int a = 0; a < 5; a++) {
                for (int b = 0; b < 5; b++) {
                    if (a != b) {
                        due("tableOf(" + a + ", " + b + ", 0)", x.tableOf(a, b, 0), NONE);
                        due("turned(" + a + ", " + b + ", 1)", x.turned(a, b, 1), NONE);
                    }
                }
            }
            due("count(0)", x.count(0), 0);
        }

        @Says(AT_MOST_ONE)
        static void aSecondTableTakesThePlaceOfTheFirst() {
            ParishYards x = oneTable(2, 3);
            x.table(0, 1, 4, 5);
            due("up", x.tableOf(0, 1, 0), 4);
            x.table(1, 0, 6, 7);
            due("up, told by the other way around", x.tableOf(0, 1, 0), 7);
            due("tables", x.count(0), 1);
            x.drop(0, 1);
            due("no first one comes back", x.tableOf(0, 1, 0), NONE);
            due("tables", x.count(0), 0);
        }

        @Says(AT_MOST_ONE)
        static void thereAreAtMostTenTables() {
            ParishYards x = allTables();
            due("tables", x.count(0), 10);
            for (int a = 0; a < 5; a++) {
                for (int b = 0; b < a; b++) {
                    x.table(a, b, 7, 7);
                }
            }
            due("tables, each told twice", x.count(0), 10);
        }
    }

    @Section("Settings")
    static final class Settings {
        private static final String BOUND = "0: 0 to 500, at first 0";
        private static final String ROUNDING = "1: 0 or 1, at first 0";
        private static final String STEPS = "2: the most steps of a way, 1 to 4, at first 4.";

        @Says(BOUND)
        static void setting0Is0To500() {
            due("at first", new ParishYards().count(9), 0);
            due("at first", new ParishYards().set(0, 500), 0);
            bounds(Checks::busy, ARGUMENT, "set(0, _)", (x, v) -> x.set(0, v), 0, 500);
        }

        @Says(BOUND)
        static void setting0AtFirstLetsNoRingGain() {
            ParishYards x = chain();
            due("0", x.table(2, 0, 99, 99), 1);
            refused(Checks::chain, STATE, "a gain of 102", y -> y.table(2, 0, 99, 98));
        }

        @Says(ROUNDING)
        static void setting1Is0Or1() {
            due("at first", new ParishYards().count(10), 0);
            due("at first", new ParishYards().set(1, 1), 0);
            bounds(Checks::busy, ARGUMENT, "set(1, _)", (x, v) -> x.set(1, v), 0, 1);
        }

        @Says(ROUNDING)
        static void setting1AtFirstRoundsToTheNearest() {
            due("half upwards", oneTable(1, 2).turned(0, 1, 1), 1);
        }

        @Says(STEPS)
        static void setting2Is1To4() {
            due("at first", new ParishYards().count(11), 4);
            due("at first", new ParishYards().set(2, 1), 4);
            bounds(Checks::busy, ARGUMENT, "set(2, _)", (x, v) -> x.set(2, v), 1, 4);
        }

        @Says(STEPS)
        static void setting2IsTheMostStepsOfAWay() {
            int[] ways = {100001, 100012, 100123, 101234};
            for (int most = 1; most <= 4; most++) {
                ParishYards x = chain();
                x.set(2, most);
                for (int steps = 1; steps <= 4; steps++) {
                    int want = steps > most ? NONE : ways[steps - 1];
                    due(steps + " steps, at most " + most, x.bestWay(0, steps, 10), want);
                }
            }
            due("four steps at first", chain().bestWay(4, 0, 10), 143210);
        }
    }

    @Section("Exceptions")
    static final class Exceptions {
        private static final String NOTHING = "A call that throws an exception changes nothing.";
        private static final String FIRST =
                "If several exceptions apply, the one that is named first in the throws clause is thrown.";

        @Says(NOTHING)
        static void refusedCallsOfTables() {
            refused(Checks::busy, INDEX, "stick(5, 40)", x -> x.stick(5, 40));
            refused(Checks::busy, ARGUMENT, "stick(0, 61)", x -> x.stick(0, 61));
            refused(Checks::busy, INDEX, "table(0, 5, 1, 1)", x -> x.table(0, 5, 1, 1));
            refused(Checks::busy, ARGUMENT, "table(0, 0, 1, 1)", x -> x.table(0, 0, 1, 1));
            refused(Checks::busy, ARGUMENT, "table(0, 1, 1, 100)", x -> x.table(0, 1, 1, 100));
            refused(Checks::busy, STATE, "table(0, 2, 1, 1)", x -> x.table(0, 2, 1, 1));
            refused(Checks::busy, INDEX, "drop(0, 5)", x -> x.drop(0, 5));
            refused(Checks::busy, STATE, "drop(0, 3)", x -> x.drop(0, 3));
            refused(Checks::busy, INDEX, "set(3, 1)", x -> x.set(3, 1));
            refused(Checks::busy, ARGUMENT, "set(0, 501)", x -> x.set(0, 501));
        }

        @Says(NOTHING)
        static void refusedCallsOfBoltsAndTexts() {
            refused(Checks::busy, INDEX, "bolt(5, 1)", x -> x.bolt(5, 1));
            refused(Checks::busy, ARGUMENT, "bolt(0, 10000)", x -> x.bolt(0, 10000));
            refused(Checks::eightBolts, STATE, "a ninth bolt", x -> x.bolt(0, 1));
            refused(Checks::busy, INDEX, "send(2, 0)", x -> x.send(2, 0));
            refused(Checks::busy, INDEX, "send(0, 5)", x -> x.send(0, 5));
            refused(Checks::busy, STATE, "send(0, 4)", x -> x.send(0, 4));
            refused(Checks::busy, STATE, "send(0, 0)", x -> x.send(0, 0));
            refused(Checks::busy, INDEX, "sell(2)", x -> x.sell(2));
            refused(Checks::busy, ARGUMENT, "append(32)", x -> x.append(32));
            refused(Checks::fullBuffer, STATE, "append(48)", x -> x.append(48));
            refused(Checks::busy, ARGUMENT, "work()", ParishYards::work);
            refused(Checks::busy, ARGUMENT, "stopped(2)", x -> x.stopped(2));
            refused(ParishYards::new, STATE, "undo()", ParishYards::undo);
            refused(Checks::small, STATE, "restore()", ParishYards::restore);
        }

        @Says(NOTHING)
        static void refusedLooks() {
            refused(Checks::busy, INDEX, "tableOf(5, 0, 0)", x -> x.tableOf(5, 0, 0));
            refused(Checks::busy, ARGUMENT, "tableOf(0, 1, 3)", x -> x.tableOf(0, 1, 3));
            refused(Checks::busy, ARGUMENT, "ring(-1, 0)", x -> x.ring(-1, 0));
            refused(Checks::busy, INDEX, "boltOf(2, 0)", x -> x.boltOf(2, 0));
            refused(Checks::busy, ARGUMENT, "boltOf(0, 4)", x -> x.boltOf(0, 4));
            refused(Checks::busy, ARGUMENT, "count(18)", x -> x.count(18));
            refused(Checks::busy, INDEX, "offBy(5, 0, 1, 1)", x -> x.offBy(5, 0, 1, 1));
            refused(Checks::busy, ARGUMENT, "offBy(0, 1, 0, 1)", x -> x.offBy(0, 1, 0, 1));
            refused(Checks::busy, INDEX, "turned(5, 0, 1)", x -> x.turned(5, 0, 1));
            refused(Checks::busy, ARGUMENT, "turned(0, 1, 100000)", x -> x.turned(0, 1, 100000));
            refused(Checks::busy, INDEX, "bestWay(5, 0, 1)", x -> x.bestWay(5, 0, 1));
            refused(Checks::busy, ARGUMENT, "bestWay(0, 1, 10000)", x -> x.bestWay(0, 1, 10000));
            refused(Checks::busy, INDEX, "mends(5, 0, 0)", x -> x.mends(5, 0, 0));
            refused(Checks::busy, ARGUMENT, "mends(0, 1, 2)", x -> x.mends(0, 1, 2));
        }

        @Says(FIRST)
        static void noSuchParishBeforeAnArgumentOutOfRange() {
            refused(Checks::busy, INDEX, "stick(5, 61)", x -> x.stick(5, 61));
            refused(Checks::busy, INDEX, "stick(-1, 19)", x -> x.stick(-1, 19));
            refused(Checks::busy, INDEX, "table(5, 5, 1, 1)", x -> x.table(5, 5, 1, 1));
            refused(Checks::busy, INDEX, "table(5, 0, 0, 1)", x -> x.table(5, 0, 0, 1));
            refused(Checks::busy, INDEX, "table(0, 5, 1, 100)", x -> x.table(0, 5, 1, 100));
            refused(Checks::busy, INDEX, "bolt(5, 0)", x -> x.bolt(5, 0));
            refused(Checks::busy, INDEX, "tableOf(-1, -1, 0)", x -> x.tableOf(-1, -1, 0));
            refused(Checks::busy, INDEX, "tableOf(0, 5, 3)", x -> x.tableOf(0, 5, 3));
            refused(Checks::busy, INDEX, "offBy(5, 5, 1, 1)", x -> x.offBy(5, 5, 1, 1));
            refused(Checks::busy, INDEX, "offBy(0, 5, 0, 100)", x -> x.offBy(0, 5, 0, 100));
            refused(Checks::busy, INDEX, "turned(5, 5, 1)", x -> x.turned(5, 5, 1));
            refused(Checks::busy, INDEX, "turned(0, 5, -1)", x -> x.turned(0, 5, -1));
            refused(Checks::busy, INDEX, "bestWay(-1, -1, 1)", x -> x.bestWay(-1, -1, 1));
            refused(Checks::busy, INDEX, "bestWay(0, 5, 10000)", x -> x.bestWay(0, 5, 10000));
            refused(Checks::busy, INDEX, "mends(5, 5, 0)", x -> x.mends(5, 5, 0));
            refused(Checks::busy, INDEX, "mends(0, 5, 2)", x -> x.mends(0, 5, 2));
        }

        @Says(FIRST)
        static void noSuchSettingOrBoltBeforeAnArgumentOutOfRange() {
            refused(Checks::busy, INDEX, "set(3, -1)", x -> x.set(3, -1));
            refused(Checks::busy, INDEX, "set(-1, 501)", x -> x.set(-1, 501));
            refused(Checks::busy, INDEX, "boltOf(2, 4)", x -> x.boltOf(2, 4));
            refused(Checks::busy, INDEX, "boltOf(-1, -1)", x -> x.boltOf(-1, -1));
        }

        @Says(FIRST)
        static void noSuchParishOrBoltBeforeWhatTheStateRefuses() {
            refused(Checks::busy, INDEX, "drop(5, 5)", x -> x.drop(5, 5));
            refused(Checks::busy, INDEX, "drop(0, -1)", x -> x.drop(0, -1));
            refused(Checks::eightBolts, INDEX, "a ninth bolt of no parish", x -> x.bolt(5, 1));
            refused(Checks::eightBolts, INDEX, "a ninth bolt of no parish and no length", x -> x.bolt(-1, 0));
            refused(Checks::busy, INDEX, "send(2, 4)", x -> x.send(2, 4));
            refused(Checks::busy, INDEX, "send(0, 5)", x -> x.send(0, 5));
        }

        @Says(FIRST)
        static void anArgumentOutOfRangeBeforeWhatTheStateRefuses() {
            refused(Checks::busy, STATE, "table(0, 1, 99, 1)", x -> x.table(0, 1, 99, 1));
            refused(Checks::busy, ARGUMENT, "table(0, 1, 100, 1)", x -> x.table(0, 1, 100, 1));
            refused(Checks::busy, ARGUMENT, "table(0, 1, 1, 100)", x -> x.table(0, 1, 1, 100));
            refused(Checks::eightBolts, ARGUMENT, "a ninth bolt of no length", x -> x.bolt(0, 0));
            refused(Checks::fullBuffer, ARGUMENT, "append(32)", x -> x.append(32));
            refused(Checks::fullBuffer, ARGUMENT, "append(127)", x -> x.append(127));
        }

        @Says("`NONE = -1`: There is nothing to return.")
        static void whereThereIsNothingToReturnItIsMinusOne() {
            ParishYards x = new ParishYards();
            due("tableOf(0, 1, 0)", x.tableOf(0, 1, 0), -1);
            due("tableOf(0, 1, 1)", x.tableOf(0, 1, 1), -1);
            due("ring(0, 0)", x.ring(0, 0), -1);
            due("stopped(0)", x.stopped(0), -1);
            due("stopped(1)", x.stopped(1), -1);
            due("turned(0, 1, 5)", x.turned(0, 1, 5), -1);
            due("bestWay(0, 1, 5)", x.bestWay(0, 1, 5), -1);
            due("mends(0, 1, 0)", x.mends(0, 1, 0), -1);
            due("mends(0, 1, 1)", x.mends(0, 1, 1), -1);
        }
    }
}
