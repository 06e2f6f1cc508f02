/** Tests by sentence: bolts, and promises 6 to 8: bolt, send, sell. */
final class BoltSentences extends Checks {

    /** Bolt 0 of a length in parish 0, and the table of 0 and 1. */
    private static ParishYards boltAnd(int length, int up, int down) {
        ParishYards x = oneTable(up, down);
        x.bolt(0, length);
        return x;
    }

    private static int gainSent(int rounding, int length, int up, int down) {
        ParishYards x = boltAnd(length, up, down);
        x.set(1, rounding);
        x.send(0, 1);
        return x.boltOf(0, 2) - 1000000;
    }

    @Section("Bolts")
    static final class Bolts {
        private static final String AT_MOST_8 = "There are at most 8 bolts of cloth, numbered from 0; a bolt has a "
                + "parish where it lies, a length in its inches, 0 to 99999, and what was gained by rounding so far, in "
                + "thousandths of inches.";
        private static final String TURNED = "A length x is turned by a table to x times up, divided by down, rounded "
                + "to the nearest number (a half upwards), with setting 1 as 0, or rounded down with 1.";
        private static final String GAINED = "What is gained by that is (what it is turned to, less x times up divided "
                + "by down, exactly) times 1000, rounded down.";
        private static final String ADDED =
                "A bolt is sent by a table; what is gained is added to what it gained so far.";
        private static final String CANNOT = "It cannot be sent for the first of these reasons that applies: 1: it lies "
                + "there; 2: there is no table; 3: its length would be above 99999.";

        @Says(AT_MOST_8)
        static void eightBoltsAreNumberedFrom0To7() {
            ParishYards x = new ParishYards();
            for (int i = 0; i < 8; i++) {
                due("the number of a bolt", x.bolt(i % 5, 10 + i), i);
                due("bolts", x.count(5), i + 1);
            }
            for (int i = 0; i < 8; i++) {
                due("length of bolt " + i, x.boltOf(i, 1), 10 + i);
                due("parish of bolt " + i, x.boltOf(i, 0), i % 5);
            }
            refused(Checks::eightBolts, STATE, "a ninth bolt", y -> y.bolt(0, 1));
        }

        @Says(AT_MOST_8)
        static void aLengthCanComeDownTo0() {
            ParishYards x = boltAnd(1, 1, 99);
            due("1 by 1 / 99", x.send(0, 1), 0);
            due("its length", x.boltOf(0, 1), 0);
            due("0 by 99", x.send(0, 0), 0);
            due("yardsticks of 0", x.sell(0), 0);
        }

        @Says(AT_MOST_8)
        static void aLengthCanComeUpTo99999AndNoFarther() {
            ParishYards x = boltAnd(2439, 41, 1);
            due("99999", x.send(0, 1), 99999);
            due("its length", x.boltOf(0, 1), 99999);
            due("back again", x.send(0, 0), 2439);
            refused(() -> boltAnd(2000, 50, 1), STATE, "100000", y -> y.send(0, 1));
        }

        @Says(AT_MOST_8)
        static void whatWasGainedIsInThousandths() {
            ParishYards x = boltAnd(1, 1, 2);
            due("at first", x.boltOf(0, 2), 1000000);
            x.send(0, 1);
            due("half an inch", x.boltOf(0, 2), 1000500);
        }

        @Says(TURNED)
        static void withSetting1As0AHalfGoesUpwards() {
            due("1/2", oneTable(1, 2).turned(0, 1, 1), 1);
            due("3/2", oneTable(1, 2).turned(0, 1, 3), 2);
            due("5/2", oneTable(1, 2).turned(0, 1, 5), 3);
            due("49/98", oneTable(49, 98).turned(0, 1, 1), 1);
            due("99999/2", oneTable(1, 2).turned(0, 1, 99999), 50000);
            ParishYards x = boltAnd(5, 1, 2);
            due("a bolt of 5/2", x.send(0, 1), 3);
        }

        @Says(TURNED)
        static void withSetting1As0LessThanAHalfGoesDown() {
            due("49/99", oneTable(49, 99).turned(0, 1, 1), 0);
            due("48/97", oneTable(48, 97).turned(0, 1, 1), 0);
            due("50/99", oneTable(50, 99).turned(0, 1, 1), 1);
            due("49/97", oneTable(49, 97).turned(0, 1, 1), 1);
            due("0", oneTable(99, 1).turned(0, 1, 0), 0);
            due("3 / 3", oneTable(3, 3).turned(0, 1, 7), 7);
        }

        @Says(TURNED)
        static void withSetting1As1AllIsRoundedDown() {
            int[][] told = {{1, 2, 1, 0}, {98, 99, 1, 0}, {99, 99, 1, 1}, {98, 99, 2, 1}, {1, 2, 3, 1},
                {3, 2, 99999, 149998}};
            for (int[] one : told) {
                ParishYards x = oneTable(one[0], one[1]);
                x.set(1, 1);
                due(one[2] + " by " + one[0] + " / " + one[1], x.turned(0, 1, one[2]), one[3]);
            }
            ParishYards x = boltAnd(5, 1, 2);
            x.set(1, 1);
            due("a bolt of 5/2", x.send(0, 1), 2);
        }

        @Says(GAINED)
        static void whatIsExactGainsNothing() {
            due("7 by 3 / 3", gainSent(0, 7, 3, 3), 0);
            due("10 by 7 / 5", gainSent(0, 10, 7, 5), 0);
            due("10 by 7 / 5 down", gainSent(1, 10, 7, 5), 0);
        }

        @Says(GAINED)
        static void aGainIsRoundedDown() {
            due("50/99 to 1: 494.9", gainSent(0, 1, 50, 99), 494);
            due("2/3 to 1: 333.3", gainSent(0, 2, 1, 3), 333);
            due("1/2 to 1: just 500", gainSent(0, 1, 1, 2), 500);
            due("97/98 to 1: 10.2", gainSent(0, 1, 97, 98), 10);
        }

        @Says(GAINED)
        static void aLossIsRoundedDownToo() {
            due("49/99 to 0: -494.9", gainSent(0, 1, 49, 99), -495);
            due("1/3 to 0: -333.3", gainSent(0, 1, 1, 3), -334);
            due("1/2 to 0: just -500", gainSent(1, 1, 1, 2), -500);
            due("98/99 to 0: -989.9", gainSent(1, 1, 98, 99), -990);
            due("1/99 to 0: -10.1", gainSent(0, 1, 1, 99), -11);
        }

        @Says(ADDED)
        static void whatIsGainedAtEachSendingIsAdded() {
            ParishYards x = oneTable(3, 2);
            x.table(1, 2, 1, 3);
            x.bolt(0, 5);
            x.send(0, 1);
            due("7.5 to 8", x.boltOf(0, 2), 1000500);
            x.send(0, 2);
            due("2.67 to 3", x.boltOf(0, 2), 1000833);
            x.send(0, 1);
            due("just 9", x.boltOf(0, 2), 1000833);
            x.set(1, 1);
            x.table(1, 3, 1, 10);
            x.send(0, 3);
            due("0.9 to 0", x.boltOf(0, 2), 999933);
        }

        @Says(ADDED)
        static void eachBoltHasAGainOfItsOwn() {
            ParishYards x = oneTable(1, 2);
            x.bolt(0, 1);
            x.bolt(0, 4);
            x.send(0, 1);
            x.send(1, 1);
            due("the first", x.boltOf(0, 2), 1000500);
            due("the second", x.boltOf(1, 2), 1000000);
        }

        /** The reason for which bolt 0 is not sent to a parish; 0 if it is sent. */
        private static int reason(ParishYards x, int parish) {
            return type(x, "s0>" + parish).work() == 1 ? 0 : x.stopped(1);
        }

        @Says(CANNOT)
        static void whereItLiesItIsNotSentForReason1() {
            due("where it came", reason(boltAnd(7, 1, 1), 0), 1);
            due("where it came, without any table to another parish", reason(eightBolts(), 0), 1);
            ParishYards x = boltAnd(7, 1, 1);
            x.send(0, 1);
            due("where it was sent", reason(x, 1), 1);
            refused(() -> boltAnd(7, 1, 1), STATE, "send(0, 0)", y -> y.send(0, 0));
        }

        @Says(CANNOT)
        static void withoutATableItIsNotSentForReason2() {
            due("no table", reason(boltAnd(7, 1, 1), 2), 2);
            due("no table from there, but others to it", reason(without01(), 1), 2);
            refused(Bolts::without01, STATE, "send(0, 1)", x -> x.send(0, 1));
        }

        /** All tables but that of 0 and 1, and bolt 0 in parish 0. */
        private static ParishYards without01() {
            ParishYards x = allTables();
            x.drop(0, 1);
            x.bolt(0, 7);
            return x;
        }

        @Says(CANNOT)
        static void above99999ItIsNotSentForReason3() {
            due("100000", reason(boltAnd(2000, 50, 1), 1), 3);
            due("99999.57", reason(boltAnd(9589, 73, 7), 1), 3);
            due("9999 times 99", reason(boltAnd(9999, 99, 1), 1), 3);
            refused(() -> boltAnd(2000, 50, 1), STATE, "100000", x -> x.send(0, 1));
            refused(() -> boltAnd(9589, 73, 7), STATE, "99999.57", x -> x.send(0, 1));
        }

        @Says(CANNOT)
        static void upTo99999ItIsSent() {
            due("99999", reason(boltAnd(2439, 41, 1), 1), 0);
            due("99999.375", reason(boltAnd(8421, 95, 8), 1), 0);
            ParishYards x = boltAnd(9589, 73, 7);
            x.set(1, 1);
            due("99999.57 rounded down", reason(x, 1), 0);
            due("its length", x.boltOf(0, 1), 99999);
        }

        @Says(CANNOT)
        static void theFirstReasonThatAppliesIsTold() {
            ParishYards x = boltAnd(2439, 41, 1);
            x.send(0, 1);
            due("it lies there, with a length that no table would turn", reason(x, 1), 1);
            due("there is no table, with such a length", reason(x, 3), 2);
            x.table(1, 3, 99, 1);
            due("there is a table", reason(x, 3), 3);
        }
    }

    @Section("Promise 6: bolt")
    static final class Bolt {
        @Says("Lets a bolt come. Undoable.")
        static void aBoltComesBehindTheOthers() {
            ParishYards x = new ParishYards();
            x.bolt(3, 77);
            x.bolt(4, 88);
            due("parish", x.boltOf(1, 0), 4);
            due("length", x.boltOf(1, 1), 88);
            due("what it gained", x.boltOf(1, 2), 1000000);
            due("how often it was sent", x.boltOf(1, 3), 0);
            due("the one before", x.boltOf(0, 1), 77);
            undoable(Checks::small, "bolt(4, 9999)", y -> y.bolt(4, 9999));
        }

        @Says("Lets a bolt come. Undoable.")
        static void aBoltThatComesInPlaceOfOneThatWentHasNothingOfIt() {
            ParishYards x = boltAnd(1, 1, 2);
            x.send(0, 1);
            x.sell(0);
            x.bolt(4, 6);
            due("parish", x.boltOf(0, 0), 4);
            due("what it gained", x.boltOf(0, 2), 1000000);
            due("how often it was sent", x.boltOf(0, 3), 0);
        }

        @Says("- `parish`: 0 to 4")
        static void theParishIs0To4() {
            bounds(Checks::busy, INDEX, "bolt(_, 5)", (x, v) -> x.bolt(v, 5), 0, 4);
        }

        @Says("- `length`: 1 to 9999")
        static void theLengthIs1To9999() {
            bounds(Checks::busy, ARGUMENT, "bolt(0, _)", (x, v) -> x.bolt(0, v), 1, 9999);
            ParishYards x = new ParishYards();
            x.bolt(0, 1);
            x.bolt(0, 9999);
            due("length", x.boltOf(0, 1), 1);
            due("length", x.boltOf(1, 1), 9999);
        }

        @Says("Returns its number.")
        static void itsNumberIsTold() {
            ParishYards x = new ParishYards();
            due("the first", x.bolt(4, 5), 0);
            due("the second", x.bolt(4, 5), 1);
            x.sell(0);
            due("after one was sold", x.bolt(4, 5), 1);
            for (int i = 2; i < 8; i++) {
                due("the next", x.bolt(0, 9), i);
            }
        }

        @Says("Throws `IndexOutOfBoundsException` if there is no such parish")
        static void noSuchParish() {
            refused(Checks::busy, INDEX, "bolt(-1, 5)", x -> x.bolt(-1, 5));
            refused(Checks::busy, INDEX, "bolt(5, 5)", x -> x.bolt(5, 5));
            refused(Checks::busy, INDEX, "bolt(5, 0)", x -> x.bolt(5, 0));
            refused(Checks::eightBolts, INDEX, "bolt(5, 5) with 8", x -> x.bolt(5, 5));
        }

        @Says("Throws `IllegalArgumentException` if length is out of range")
        static void lengthOutOfRange() {
            refused(Checks::busy, ARGUMENT, "bolt(0, 0)", x -> x.bolt(0, 0));
            refused(Checks::busy, ARGUMENT, "bolt(0, -1)", x -> x.bolt(0, -1));
            refused(Checks::busy, ARGUMENT, "bolt(0, 10000)", x -> x.bolt(0, 10000));
            refused(Checks::eightBolts, ARGUMENT, "bolt(0, 0) with 8", x -> x.bolt(0, 0));
        }

        @Says("Throws `IllegalStateException` if there are 8")
        static void thereAre8() {
            refused(Checks::eightBolts, STATE, "a ninth", x -> x.bolt(4, 9999));
            ParishYards x = eightBolts();
            x.sell(7);
            due("with 7", x.bolt(4, 9999), 7);
            dueThrown("with 8 again", x, STATE, y -> y.bolt(4, 9999));
        }
    }

    @Section("Promise 7: send")
    static final class Send {
        @Says("Sends a bolt. Undoable.")
        static void aBoltLiesThereThenAndNoOtherOneIsSent() {
            ParishYards x = boltAnd(8, 3, 2);
            x.bolt(0, 9);
            x.send(0, 1);
            due("parish", x.boltOf(0, 0), 1);
            due("length", x.boltOf(0, 1), 12);
            due("how often it was sent", x.boltOf(0, 3), 1);
            due("parish of the other one", x.boltOf(1, 0), 0);
            due("length of the other one", x.boltOf(1, 1), 9);
            due("how often the other one was sent", x.boltOf(1, 3), 0);
            undoable(Checks::small, "send(1, 0)", y -> y.send(1, 0));
        }

        @Says("- `bolt`: its number")
        static void theBoltIs0ToTheLastOne() {
            bounds(Send::fourInParish0, INDEX, "send(_, 1)", (x, v) -> x.send(v, 1), 0, 3);
        }

        private static ParishYards fourInParish0() {
            ParishYards x = oneTable(1, 1);
            for (int i = 0; i < 4; i++) {
                x.bolt(0, 5);
            }
            return x;
        }

        @Says("- `parish`: 0 to 4")
        static void theParishIs0To4() {
            for (int parish = 0; parish < 5; parish++) {
                ParishYards x = allTables();
                x.bolt(other(parish), 5);
                due("send(0, " + parish + ")", x.send(0, parish), 5);
                due("where it lies", x.boltOf(0, 0), parish);
            }
            refused(Checks::busy, INDEX, "send(0, -1)", x -> x.send(0, -1));
            refused(Checks::busy, INDEX, "send(0, 5)", x -> x.send(0, 5));
        }

        @Says("Returns its length then.")
        static void itsLengthThenIsTold() {
            due("7.5", boltAnd(5, 3, 2).send(0, 1), 8);
            due("0.01", boltAnd(1, 1, 99).send(0, 1), 0);
            due("99999", boltAnd(2439, 41, 1).send(0, 1), 99999);
            due("9999 by 1 / 1", boltAnd(9999, 1, 1).send(0, 1), 9999);
        }

        @Says("Throws `IndexOutOfBoundsException` if there is no such bolt or parish")
        static void noSuchBoltOrParish() {
            refused(Checks::busy, INDEX, "send(-1, 0)", x -> x.send(-1, 0));
            refused(Checks::busy, INDEX, "send(2, 0)", x -> x.send(2, 0));
            refused(Checks::busy, INDEX, "send(0, 5)", x -> x.send(0, 5));
            refused(Checks::busy, INDEX, "send(0, -1)", x -> x.send(0, -1));
            refused(Checks::busy, INDEX, "send(8, 5)", x -> x.send(8, 5));
            refused(Checks::eightBolts, INDEX, "send(8, 0)", x -> x.send(8, 0));
            refused(ParishYards::new, INDEX, "send(0, 0) without bolts", x -> x.send(0, 0));
        }

        @Says("Throws `IndexOutOfBoundsException` if there is no such bolt or parish")
        static void aBoltThatWasSoldIsNoLongerThere() {
            ParishYards x = boltAnd(5, 1, 1);
            x.sell(0);
            dueThrown("send(0, 1)", x, INDEX, y -> y.send(0, 1));
        }

        @Says("Throws `IllegalStateException` if it cannot be sent")
        static void itCannotBeSent() {
            refused(Checks::busy, STATE, "where it lies", x -> x.send(0, 4));
            refused(Checks::busy, STATE, "without a table", x -> x.send(0, 0));
            refused(() -> boltAnd(2000, 50, 1), STATE, "100000", x -> x.send(0, 1));
            ParishYards x = boltAnd(7, 1, 1);
            x.drop(1, 0);
            dueThrown("when its table was dropped", x, STATE, y -> y.send(0, 1));
        }
    }

    @Section("Promise 8: sell")
    static final class Sell {
        private static final String SELLS =
                "Sells a bolt; those behind it have numbers that are less by 1. Undoable.";

        @Says(SELLS)
        static void thoseBehindItHaveNumbersLessBy1() {
            for (int sold = 0; sold < 8; sold++) {
                ParishYards x = eightBolts();
                x.sell(sold);
                due("bolts", x.count(5), 7);
                due("bolts sold", x.count(8), 1);
                for (int i = 0; i < 7; i++) {
                    int was = i < sold ? i : i + 1;
                    due("length of " + i + " without " + sold, x.boltOf(i, 1), 10 + was);
                    due("parish of " + i + " without " + sold, x.boltOf(i, 0), was % 5);
                }
            }
        }

        @Says(SELLS)
        static void whatThoseBehindItGainedStaysTheirs() {
            ParishYards x = boltAnd(4, 1, 2);
            x.bolt(0, 1);
            x.send(1, 1);
            x.sell(0);
            due("what it gained", x.boltOf(0, 2), 1000500);
            due("how often it was sent", x.boltOf(0, 3), 1);
            dueThrown("boltOf(1, 1)", x, INDEX, y -> y.boltOf(1, 1));
        }

        @Says(SELLS)
        static void allEightCanBeSoldAndComeBackByUndo() {
            undoable(Checks::small, "sell(0)", x -> x.sell(0));
            undoable(Checks::small, "sell(1)", x -> x.sell(1));
            ParishYards x = eightBolts();
            for (int left = 7; left >= 0; left--) {
                x.sell(0);
                due("bolts", x.count(5), left);
            }
            dueThrown("sell(0) without bolts", x, INDEX, y -> y.sell(0));
        }

        @Says("- `bolt`: its number")
        static void theBoltIs0ToTheLastOne() {
            bounds(Checks::eightBolts, INDEX, "sell(_)", (x, v) -> x.sell(v), 0, 7);
            bounds(Checks::busy, INDEX, "sell(_)", (x, v) -> x.sell(v), 0, 1);
        }

        @Says("Returns how many whole yardsticks of its parish it was long.")
        static void wholeYardsticksAreTold() {
            int[][] told = {{35, 36, 0}, {36, 36, 1}, {71, 36, 1}, {72, 36, 2}, {19, 20, 0}, {20, 20, 1}, {59, 60, 0},
                {60, 60, 1}, {9999, 20, 499}, {9999, 60, 166}, {1, 60, 0}};
            for (int[] one : told) {
                ParishYards x = new ParishYards();
                x.stick(3, one[1]);
                x.bolt(3, one[0]);
                due(one[0] + " inches by " + one[1], x.sell(0), one[2]);
            }
        }

        @Says("Returns how many whole yardsticks of its parish it was long.")
        static void itIsTheStickOfTheParishWhereItLiesThen() {
            ParishYards x = boltAnd(60, 2, 1);
            x.stick(0, 60);
            x.stick(1, 20);
            x.send(0, 1);
            due("120 by 20", x.sell(0), 6);
            x.bolt(0, 60);
            x.stick(0, 30);
            due("60 by 30, changed after it came", x.sell(0), 2);
        }

        @Says("Returns how many whole yardsticks of its parish it was long.")
        static void aBoltOf99999OrOf0HasYardsticks() {
            ParishYards x = boltAnd(2439, 41, 1);
            x.send(0, 1);
            due("99999 by 36", x.sell(0), 2777);
            ParishYards y = boltAnd(1, 1, 99);
            y.send(0, 1);
            due("0 by 36", y.sell(0), 0);
        }

        @Says("Throws `IndexOutOfBoundsException` if there is no such bolt")
        static void noSuchBolt() {
            refused(Checks::busy, INDEX, "sell(-1)", x -> x.sell(-1));
            refused(Checks::busy, INDEX, "sell(2)", x -> x.sell(2));
            refused(Checks::eightBolts, INDEX, "sell(8)", x -> x.sell(8));
            refused(ParishYards::new, INDEX, "sell(0) without bolts", x -> x.sell(0));
        }
    }
}
