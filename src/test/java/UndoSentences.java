/** Tests by sentence: undo and the snapshot, and promises 14 to 16: undo, keep, restore. */
final class UndoSentences extends Checks {

    /** small(), with a snapshot of another state. */
    private static ParishYards smallAndKept() {
        ParishYards x = new ParishYards();
        x.keep();
        told(x, "0>1=3/2;1>2=2/3;0>2=2/2;b0=5;b1=9;s0>1;s0>1");
        return type(x, "b0=7");
    }

    @Section("Undo, the snapshot")
    static final class UndoSnapshot {
        private static final String SAVES = "Each method that is marked \"undoable\" and does not throw an exception "
                + "saves the state from before it (also if it changes nothing): all, also the latest stop, but the "
                + "buffer, the saved states and the snapshot.";
        private static final String AT_MOST_6 = "At most 6 states are saved; the oldest one is dropped first.";

        @Says(SAVES)
        static void eachUndoableMethodSavesTheStateFromBeforeIt() {
            undoable(Checks::small, "stick", x -> x.stick(0, 40));
            undoable(Checks::small, "table", x -> x.table(3, 4, 5, 6));
            undoable(Checks::small, "drop", x -> x.drop(0, 1));
            undoable(Checks::small, "set", x -> x.set(0, 7));
            undoable(Checks::small, "bolt", x -> x.bolt(0, 7));
            undoable(Checks::small, "send", x -> x.send(0, 0));
            undoable(Checks::small, "sell", x -> x.sell(0));
            undoable(UndoSentences::smallAndKept, "restore", ParishYards::restore);
            ParishYards x = small();
            x.clearBuffer();
            long before = x.digest();
            told(x, "b0=7;s1>0");
            due("saved states after work", x.count(17), 2);
            x.undo();
            due("the state after work undone", x.digest(), before);
        }

        @Says(SAVES)
        static void aStateIsSavedAlsoIfNothingIsChanged() {
            undoable(Checks::small, "stick as it is", x -> x.stick(0, 36));
            undoable(Checks::small, "table as it is", x -> x.table(0, 1, 3, 2));
            undoable(Checks::small, "set as it is", x -> x.set(0, 0));
            ParishYards x = small();
            x.keep();
            x.restore();
            due("saved states after restore() as it is", x.count(17), 2);
            x.clearBuffer();
            told(x, "s0>1");
            due("saved states after work that does nothing", x.count(17), 3);
        }

        @Says(SAVES)
        static void methodsThatAreNotMarkedSaveNothing() {
            ParishYards x = small();
            x.append('b');
            x.firstError();
            x.clearBuffer();
            x.keep();
            due("after texts and keep()", x.count(17), 1);
            x.stopped(0);
            x.tableOf(0, 1, 2);
            x.ring(0, 2);
            x.boltOf(0, 2);
            x.count(4);
            x.offBy(0, 1, 9, 1);
            x.turned(0, 1, 9);
            x.bestWay(0, 1, 9);
            x.mends(0, 1, 0);
            x.trueShare();
            x.digest();
            due("after looks", x.count(17), 1);
        }

        @Says(SAVES)
        static void aMethodThatThrowsSavesNothing() {
            refused(Checks::small, STATE, "table", x -> x.table(0, 1, 4, 2));
            refused(Checks::small, STATE, "drop", x -> x.drop(3, 4));
            refused(Checks::small, STATE, "send", x -> x.send(0, 1));
            refused(Checks::small, STATE, "restore", ParishYards::restore);
            refused(() -> type(small(), ";"), ARGUMENT, "work", ParishYards::work);
            refused(Checks::small, ARGUMENT, "stick", x -> x.stick(0, 61));
            refused(Checks::small, ARGUMENT, "set", x -> x.set(2, 5));
            refused(Checks::small, ARGUMENT, "bolt", x -> x.bolt(0, 0));
            refused(Checks::small, INDEX, "sell", x -> x.sell(2));
        }

        @Says(SAVES)
        static void theLatestStopIsSaved() {
            ParishYards x = new ParishYards();
            told(x, "b0=5;s0>0");
            told(x, "-0>1");
            told(x, "b0=6");
            due("no stop", x.stopped(1), NONE);
            x.undo();
            due("the second: part", x.stopped(0), 0);
            due("the second: reason", x.stopped(1), 6);
            x.undo();
            due("the first: part", x.stopped(0), 1);
            due("the first: reason", x.stopped(1), 1);
            x.undo();
            due("none yet", x.stopped(0), NONE);
        }

        @Says(SAVES)
        static void boltsThatWereSoldAndAllThatWasGainedAreSaved() {
            ParishYards x = oneTable(1, 2);
            x.bolt(0, 1);
            x.send(0, 1);
            x.sell(0);
            x.undo();
            due("sold", x.count(8), 0);
            due("gained", x.boltOf(0, 2), 1000500);
            x.undo();
            due("gained by all", x.count(7), 10000000);
            due("how often it was sent", x.boltOf(0, 3), 0);
        }

        @Says(SAVES)
        static void theBufferIsNotSaved() {
            ParishYards x = type(new ParishYards(), "b0");
            x.stick(0, 20);
            type(x, "=77");
            x.undo();
            due("firstError()", x.firstError(), 5);
            due("work()", x.work(), 1);
            due("its length", x.boltOf(0, 1), 77);
            x.undo();
            due("what work() cleared stays so", x.clearBuffer(), 0);
        }

        @Says(SAVES)
        static void theSnapshotIsNotSaved() {
            ParishYards x = new ParishYards();
            x.stick(0, 20);
            x.keep();
            x.undo();
            x.restore();
            due("the stick of the snapshot", x.count(12), 20);
            x.undo();
            x.keep();
            x.stick(0, 50);
            x.restore();
            due("the stick of the snapshot after it", x.count(12), 36);
        }

        @Says(AT_MOST_6)
        static void sixStatesAreSavedAndNoMore() {
            ParishYards x = new ParishYards();
            for (int call = 1; call <= 12; call++) {
                x.stick(0, 20 + call);
                due("saved states after call " + call, x.count(17), Math.min(call, 6));
            }
        }

        @Says(AT_MOST_6)
        static void theOldestIsDroppedFirst() {
            for (int calls = 5; calls <= 14; calls++) {
                ParishYards x = new ParishYards();
                for (int call = 1; call <= calls; call++) {
                    x.stick(0, 20 + call);
                }
                int left = Math.min(calls, 6);
                for (int back = 1; back <= left; back++) {
                    due("undo()", x.undo(), left - back);
                    int stick = calls == back ? 36 : 20 + calls - back;
                    due("the stick after " + calls + " calls, " + back + " of them undone", x.count(12), stick);
                }
                dueThrown("one more undo()", x, STATE, ParishYards::undo);
            }
        }

        @Says(AT_MOST_6)
        static void afterAnUndoStatesAreSavedAgain() {
            ParishYards x = new ParishYards();
            for (int call = 1; call <= 8; call++) {
                x.stick(0, 20 + call);
            }
            x.undo();
            x.undo();
            x.stick(0, 50);
            due("saved states", x.count(17), 5);
            x.stick(0, 51);
            x.stick(0, 52);
            due("saved states", x.count(17), 6);
            int[] sticks = {51, 50, 26, 25, 24, 23};
            for (int stick : sticks) {
                x.undo();
                due("the stick undone", x.count(12), stick);
            }
        }
    }

    @Section("Promise 14: undo")
    static final class Undo {
        private static final String RESTORES = "Restores the latest saved state, and drops it.";

        @Says(RESTORES)
        static void theLatestComesBackFirst() {
            ParishYards x = new ParishYards();
            x.stick(0, 40);
            x.stick(0, 50);
            x.undo();
            due("the stick", x.count(12), 40);
            x.undo();
            due("the stick", x.count(12), 36);
        }

        @Says(RESTORES)
        static void itIsDropped() {
            ParishYards x = new ParishYards();
            x.stick(0, 40);
            x.undo();
            due("saved states", x.count(17), 0);
            dueThrown("undo() again", x, STATE, ParishYards::undo);
            due("undo() is not undone by undo()", x.count(12), 36);
        }

        @Says(RESTORES)
        static void aStateThatCameBackCanBeChanged() {
            ParishYards x = allTables();
            x.bolt(0, 5);
            x.undo();
            x.drop(0, 1);
            x.bolt(1, 6);
            x.undo();
            x.undo();
            due("tables", x.count(0), 10);
            due("bolts", x.count(5), 0);
            x.undo();
            due("tables", x.count(0), 9);
        }

        @Says("Returns how many saved states are left.")
        static void theStatesThatAreLeftAreTold() {
            ParishYards x = busy();
            for (int left = 5; left >= 0; left--) {
                due("undo()", x.undo(), left);
                due("saved states", x.count(17), left);
            }
        }

        @Says("Throws `IllegalStateException` if there is none")
        static void thereIsNone() {
            refused(ParishYards::new, STATE, "undo() of a new object", ParishYards::undo);
            refused(() -> type(new ParishYards(), "b0=1"), STATE, "undo() with a text", ParishYards::undo);
            ParishYards x = busy();
            for (int i = 0; i < 6; i++) {
                x.undo();
            }
            dueThrown("undo() for the seventh time", x, STATE, ParishYards::undo);
            x.keep();
            dueThrown("undo() after keep()", x, STATE, ParishYards::undo);
        }
    }

    @Section("Promise 15: keep")
    static final class Keep {
        private static final String TAKES = "Takes a snapshot, in place of the one before.";

        @Says(TAKES)
        static void aSnapshotTakesThePlaceOfTheOneBefore() {
            ParishYards x = new ParishYards();
            x.stick(0, 40);
            x.keep();
            x.stick(0, 50);
            x.keep();
            x.stick(0, 60);
            x.restore();
            due("the stick", x.count(12), 50);
        }

        @Says(TAKES)
        static void laterChangesAreNotInTheSnapshot() {
            ParishYards x = oneTable(3, 2);
            x.bolt(0, 5);
            x.keep();
            for (int i = 0; i < 3; i++) {
                x.table(0, 1, 5, 6);
                x.send(0, 1);
                x.set(2, 1);
                x.stick(1, 20);
                x.bolt(3, 9);
                x.sell(0);
                told(x, "-3>3");
                x.restore();
                due("up", x.tableOf(0, 1, 0), 3);
                due("parish and length", x.boltOf(0, 0) * 10 + x.boltOf(0, 1), 5);
                due("bolts and sold ones", x.count(5) * 10 + x.count(8), 10);
                due("setting 2", x.count(11), 4);
                due("the stick", x.count(13), 36);
                due("the stop", x.stopped(1), NONE);
            }
        }

        @Says(TAKES)
        static void aSnapshotIsNoSavedState() {
            ParishYards x = small();
            x.keep();
            due("saved states", x.count(17), 1);
            ParishYards y = busy();
            y.keep();
            due("saved states", y.count(17), 6);
        }

        @Says("Returns how many tables there are.")
        static void theTablesAreTold() {
            due("none", new ParishYards().keep(), 0);
            due("one", oneTable(1, 1).keep(), 1);
            due("ten", allTables().keep(), 10);
            ParishYards x = oneTable(1, 1);
            x.keep();
            x.drop(0, 1);
            due("after a drop", x.keep(), 0);
        }
    }

    @Section("Promise 16: restore")
    static final class Restore {
        private static final String RESTORES = "Restores the state of the snapshot, which stays. Undoable.";

        /** The digest, but for the count of saved states: all of them are pushed out by six that are the same. */
        private static long digestWithSix(ParishYards x) {
            while (x.count(17) < 6) {
                x.stick(4, x.count(16));
            }
            return x.digest();
        }

        @Says(RESTORES)
        static void allOfTheStateComesBack() {
            ParishYards x = busy();
            x.clearBuffer();
            x.keep();
            long kept = digestWithSix(x);
            x.stick(0, 60);
            x.drop(0, 1);
            x.set(0, 0);
            x.set(1, 1);
            x.set(2, 1);
            x.bolt(3, 3);
            x.sell(0);
            told(x, "b0=1;-0>4");
            x.restore();
            due("the state", x.digest(), kept);
        }

        @Says(RESTORES)
        static void theLatestStopComesBack() {
            ParishYards x = new ParishYards();
            told(x, "b0=5;s0>0");
            x.keep();
            told(x, "b0=6");
            x.restore();
            due("part", x.stopped(0), 1);
            due("reason", x.stopped(1), 1);
            told(x, "-0>1");
            x.undo();
            due("reason", x.stopped(1), 1);
        }

        @Says(RESTORES)
        static void theBufferAndTheSavedStatesStay() {
            ParishYards x = new ParishYards();
            x.stick(0, 20);
            x.keep();
            x.stick(0, 30);
            type(x, "b0=7");
            x.restore();
            due("saved states", x.count(17), 3);
            due("the buffer", x.firstError(), 4);
            x.undo();
            due("the stick", x.count(12), 30);
            x.undo();
            x.undo();
            due("the stick", x.count(12), 36);
            due("the buffer", x.work(), 1);
        }

        @Says(RESTORES)
        static void theSnapshotStays() {
            ParishYards x = new ParishYards();
            x.stick(0, 20);
            x.keep();
            for (int i = 0; i < 3; i++) {
                x.stick(0, 50);
                x.bolt(0, 5);
                x.restore();
                due("the stick", x.count(12), 20);
                due("bolts", x.count(5), 0);
            }
        }

        @Says(RESTORES)
        static void itIsUndoable() {
            undoable(UndoSentences::smallAndKept, "restore()", ParishYards::restore);
            ParishYards x = busy();
            long before = x.digest();
            x.restore();
            due("saved states", x.count(17), 6);
            x.undo();
            x.stick(0, x.count(12));
            due("the state undone", x.digest(), before);
        }

        @Says("Returns how many tables there are then.")
        static void theTablesAreTold() {
            ParishYards x = allTables();
            x.keep();
            x.drop(0, 1);
            due("ten", x.restore(), 10);
            ParishYards y = new ParishYards();
            y.keep();
            y.table(0, 1, 1, 1);
            due("none", y.restore(), 0);
        }

        @Says("Throws `IllegalStateException` if there is no snapshot")
        static void thereIsNoSnapshot() {
            refused(ParishYards::new, STATE, "restore() of a new object", ParishYards::restore);
            refused(Checks::small, STATE, "restore() with a saved state", ParishYards::restore);
            ParishYards x = new ParishYards();
            dueThrown("restore()", x, STATE, ParishYards::restore);
            x.keep();
            due("restore() then", x.restore(), 0);
        }
    }
}
