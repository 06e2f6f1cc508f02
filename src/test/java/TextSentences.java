/** Tests by sentence: input text, and promises 9 to 13: append, clearBuffer, firstError, work, stopped. */
final class TextSentences extends Checks {
    private static final String DIGITS = "0123456789";
    private static final String FROM_1 = "123456789";
    private static final String PARISHES = "01234";
    private static final String STARTS = "01234-bs";

    /** 60 characters that are complete works. */
    private static final String FULL_WORKS = "b0=1;".repeat(11) + "b0=12";

    /** Behind the beginning of a text just these characters are no syntax errors, of all from 33 to 126. */
    private static void dueNext(String before, String characters) {
        for (char code = 33; code <= 126; code++) {
            boolean mayCome = characters.indexOf(code) >= 0;
            due("firstError of " + before + code, firstErrorOf(before + code), before.length() + (mayCome ? 1 : 0));
        }
    }

    private static void dueComplete(String text) {
        dueThrown("work of " + text, type(new ParishYards(), text), null, ParishYards::work);
    }

    private static void dueNotComplete(String text) {
        refused(() -> type(small(), ";" + text), ARGUMENT, "work of b0=7;" + text, ParishYards::work);
        refused(() -> type(new ParishYards(), text), ARGUMENT, "work of " + text, ParishYards::work);
    }

    @Section("Input text")
    static final class InputText {
        private static final String AT_MOST_60 = "The buffer has at most 60 characters.";
        private static final String PARTS = "Works as a text are one or more parts with \";\" between them";
        private static final String TABLE = "a parish, 0 to 4, \">\", a parish, \"=\", up, \"/\", and down, both 1 to 99 "
                + "(a table is set)";
        private static final String DROP = "\"-\", a parish, \">\", and a parish (their table is dropped)";
        private static final String BOLT = "\"b\", a parish, \"=\", and a length, 1 to 9999 (a bolt comes)";
        private static final String SEND = "or \"s\", a bolt, 0 to 7, \">\", and a parish (it is sent)";
        private static final String ZERO = "numbers without a leading zero.";
        private static final String ERROR = "The buffer is read from left to right; a character is a syntax error if no "
                + "works as a text, of any length, begin with the characters before it and this character.";
        private static final String SAME =
                "(Both parishes can be the same in a text; that is no syntax error.)";

        @Says(AT_MOST_60)
        static void sixtyCharactersAndNoMore() {
            ParishYards x = new ParishYards();
            for (int i = 1; i <= 60; i++) {
                due("append as number " + i, x.append('b'), i);
            }
            dueThrown("append as number 61", x, STATE, y -> y.append('b'));
            due("the length", x.clearBuffer(), 60);
            refused(Checks::fullBuffer, STATE, "append(';')", y -> y.append(';'));
        }

        @Says(AT_MOST_60)
        static void worksOf60CharactersAreDone() {
            due("their length", FULL_WORKS.length(), 60);
            ParishYards x = new ParishYards();
            due("8 of 12 parts", told(x, FULL_WORKS), 800 + 80 + 8);
            due("cleared", x.clearBuffer(), 0);
        }

        @Says(PARTS)
        static void noPartIsNoWorks() {
            refused(ParishYards::new, ARGUMENT, "work of an empty buffer", ParishYards::work);
            due("firstError of an empty buffer", new ParishYards().firstError(), 0);
        }

        @Says(PARTS)
        static void oneOrMorePartsAreWorks() {
            due("one", told(new ParishYards(), "b0=1"), 100);
            due("two", told(new ParishYards(), "b0=1;b0=2"), 200);
            due("eight", told(new ParishYards(), "b0=1;b1=2;b2=3;b3=4;b4=5;b0=6;b1=7;b2=8"), 800);
            due("of each kind", told(new ParishYards(), "0>1=1/1;b0=1;s0>1;-0>1"), 400);
        }

        @Says(PARTS)
        static void betweenPartsThereIsJustOneSemicolon() {
            dueNext("", STARTS);
            dueNext("b0=1;", STARTS);
            dueNext("-0>0;", STARTS);
            dueNext("0>0=1/1;s0>1;", STARTS);
            dueNotComplete("b0=1;");
            dueNotComplete("b0=1;b0=2;");
        }

        @Says(TABLE)
        static void aTableIsWrittenSo() {
            dueNext("0", ">");
            dueNext("4", ">");
            dueNext("0>", PARISHES);
            dueNext("3>4", "=");
            dueNext("0>1=", FROM_1);
            dueNext("0>1=1", DIGITS + "/");
            dueNext("0>1=10", "/");
            dueNext("0>1=99", "/");
            dueNext("0>1=9/", FROM_1);
            dueNext("0>1=99/", FROM_1);
            dueNext("0>1=9/1", DIGITS + ";");
            dueNext("0>1=9/10", ";");
            dueNext("0>1=99/99", ";");
        }

        @Says(TABLE)
        static void aTableOf1To99IsSet() {
            for (int[] told : new int[][] {{1, 1}, {1, 99}, {99, 1}, {99, 99}, {9, 10}, {10, 9}, {98, 76}}) {
                ParishYards x = new ParishYards();
                due("work", type(x, "3>1=" + told[0] + "/" + told[1]).work(), 1);
                due("up", x.tableOf(3, 1, 0), told[0]);
                due("down", x.tableOf(3, 1, 1), told[1]);
                due("tables", x.count(0), 1);
            }
        }

        @Says(TABLE)
        static void aTableThatIsCutShortIsNoWorks() {
            String text = "0>1=98/76";
            for (int length = 1; length <= 7; length++) {
                due("firstError", firstErrorOf(text.substring(0, length)), length);
                dueNotComplete(text.substring(0, length));
            }
            dueComplete("0>1=98/7");
            dueComplete("0>1=98/76");
        }

        @Says(DROP)
        static void aDropIsWrittenSo() {
            dueNext("-", PARISHES);
            dueNext("-0", ">");
            dueNext("-4", ">");
            dueNext("-0>", PARISHES);
            dueNext("-0>4", ";");
            dueNext("-4>0", ";");
        }

        @Says(DROP)
        static void theirTableIsDropped() {
            ParishYards x = allTables();
            due("work", type(x, "-4>0").work(), 1);
            due("tables", x.count(0), 9);
            due("the table", x.tableOf(0, 4, 0), NONE);
            for (String text : new String[] {"-", "-4", "-4>"}) {
                dueNotComplete(text);
            }
        }

        @Says(BOLT)
        static void aBoltIsWrittenSo() {
            dueNext("b", PARISHES);
            dueNext("b0", "=");
            dueNext("b4", "=");
            dueNext("b0=", FROM_1);
            dueNext("b0=1", DIGITS + ";");
            dueNext("b0=10", DIGITS + ";");
            dueNext("b0=100", DIGITS + ";");
            dueNext("b0=1000", ";");
            dueNext("b0=9999", ";");
        }

        @Says(BOLT)
        static void aBoltOf1To9999Comes() {
            for (int length : new int[] {1, 9, 10, 99, 100, 999, 1000, 9999}) {
                ParishYards x = new ParishYards();
                due("work", type(x, "b4=" + length).work(), 1);
                due("parish", x.boltOf(0, 0), 4);
                due("length", x.boltOf(0, 1), length);
            }
            for (String text : new String[] {"b", "b4", "b4="}) {
                dueNotComplete(text);
            }
        }

        @Says(SEND)
        static void aSendingIsWrittenSo() {
            dueNext("s", "01234567");
            dueNext("s0", ">");
            dueNext("s7", ">");
            dueNext("s0>", PARISHES);
            dueNext("s0>0", ";");
            dueNext("s7>4", ";");
        }

        @Says(SEND)
        static void itIsSent() {
            ParishYards x = oneTable(1, 1);
            for (int i = 0; i < 8; i++) {
                x.bolt(0, 10 + i);
            }
            due("bolts 0 and 7", told(x, "s0>1;s7>1"), 200);
            for (int i = 0; i < 8; i++) {
                due("parish of " + i, x.boltOf(i, 0), i == 0 || i == 7 ? 1 : 0);
            }
            for (String text : new String[] {"s", "s0", "s0>"}) {
                dueNotComplete(text);
            }
        }

        @Says(ZERO)
        static void aNumberThatStartsWith0IsASyntaxError() {
            String[] texts = {
                "0>1=0", "0>1=5/0", "b0=0", "00", "0>00", "-00", "-0>00", "b00", "s00", "s0>00"
            };
            for (String text : texts) {
                due("firstError of " + text, firstErrorOf(text), text.length() - 1);
                due("firstError of " + text + "1", firstErrorOf(text + "1"), text.length() - 1);
            }
            due("parish 0 and bolt 0 are numbers", firstErrorOf("0>0=10/10;-0>0;b0=10;s0>0"), 25);
        }

        @Says(ERROR)
        static void theFirstSyntaxErrorIsTheLeftmost() {
            due("two of them", firstErrorOf("b9=0"), 1);
            due("the text behind it could be works", firstErrorOf("xb0=1"), 0);
            due("at the last place", firstErrorOf("b0=1;x"), 5);
            due("none", firstErrorOf("b0=1;s"), 6);
        }

        @Says(ERROR)
        static void worksThatWouldBeLongerThan60AreNoSyntaxError() {
            String text = "b0=1;".repeat(12);
            due("60 characters, and a part would be due", firstErrorOf(text), 60);
            due("59 and the beginning of a part", firstErrorOf(FULL_WORKS.substring(0, 55) + "0>1=1"), 60);
            due("an error at place 59", firstErrorOf(text.substring(0, 59) + "x"), 59);
            refused(() -> type(new ParishYards(), text), ARGUMENT, "work of it", ParishYards::work);
        }

        @Says(SAME)
        static void bothParishesCanBeTheSame() {
            for (int parish = 0; parish < 5; parish++) {
                String both = parish + ">" + parish;
                due("a table", firstErrorOf(both + "=1/1"), 7);
                due("a drop", firstErrorOf("-" + both), 4);
                ParishYards x = new ParishYards();
                due("work of a table: reason 4", told(x, both + "=1/1"), 4);
                due("work of a drop: reason 4", told(x, "-" + both), 4);
            }
        }
    }

    @Section("Promise 9: append")
    static final class Append {
        @Says("Appends a character to the buffer.")
        static void aCharacterIsAppendedBehindTheOthers() {
            ParishYards x = new ParishYards();
            for (char code : "b3=21".toCharArray()) {
                x.append(code);
            }
            x.work();
            due("the length of the bolt", x.boltOf(0, 1), 21);
            due("nothing is saved but by work()", x.count(17), 1);
        }

        @Says("- `code`: the character code, 33 to 126")
        static void theCodeIs33To126() {
            bounds(Checks::busy, ARGUMENT, "append(_)", (x, v) -> x.append(v), 33, 126);
            bounds(ParishYards::new, ARGUMENT, "append(_)", (x, v) -> x.append(v), 33, 126);
        }

        @Says("Returns the new length of the buffer.")
        static void theNewLengthIsTold() {
            ParishYards x = new ParishYards();
            for (int i = 1; i <= 60; i++) {
                due("append", x.append(33 + i), i);
            }
            x.clearBuffer();
            due("append after clearBuffer()", x.append(33), 1);
        }

        @Says("Throws `IllegalArgumentException` if code is not 33 to 126")
        static void codeOutOfRange() {
            refused(Checks::busy, ARGUMENT, "append(32)", x -> x.append(32));
            refused(Checks::busy, ARGUMENT, "append(127)", x -> x.append(127));
            refused(Checks::busy, ARGUMENT, "append(65536 + 48)", x -> x.append(65536 + 48));
            refused(Checks::fullBuffer, ARGUMENT, "append(32) with 60", x -> x.append(32));
            refused(Checks::fullBuffer, ARGUMENT, "append(127) with 60", x -> x.append(127));
        }

        @Says("Throws `IllegalStateException` if the buffer has 60 characters")
        static void theBufferHas60Characters() {
            refused(Checks::fullBuffer, STATE, "append(33)", x -> x.append(33));
            refused(Checks::fullBuffer, STATE, "append(126)", x -> x.append(126));
            ParishYards x = type(new ParishYards(), "b".repeat(59));
            due("with 59", x.append(';'), 60);
            dueThrown("with 60", x, STATE, y -> y.append(';'));
        }
    }

    @Section("Promise 10: clearBuffer")
    static final class ClearBuffer {
        @Says("Clears the buffer.")
        static void nothingIsLeftOfTheBuffer() {
            ParishYards x = type(new ParishYards(), "b0=1;x");
            x.clearBuffer();
            due("firstError()", x.firstError(), 0);
            dueThrown("work()", x, ARGUMENT, ParishYards::work);
            due("a text typed then", told(x, "b4=5"), 100);
            due("parish", x.boltOf(0, 0), 4);
        }

        @Says("Clears the buffer.")
        static void nothingElseIsCleared() {
            ParishYards x = small();
            x.clearBuffer();
            ParishYards y = small();
            y.clearBuffer();
            due("the state", x.digest(), y.digest());
            due("saved states", x.count(17), 1);
            due("the stop", x.stopped(1), 1);
        }

        @Says("Returns the length that it had.")
        static void theLengthThatItHadIsTold() {
            due("empty", new ParishYards().clearBuffer(), 0);
            due("one", type(new ParishYards(), "!").clearBuffer(), 1);
            ParishYards x = fullBuffer();
            due("full", x.clearBuffer(), 60);
            due("cleared already", x.clearBuffer(), 0);
        }
    }

    @Section("Promise 11: firstError")
    static final class FirstError {
        @Says("Finds the first syntax error of the buffer.")
        static void theFirstOfSeveralIsFound() {
            due("xx", firstErrorOf("xx"), 0);
            due("b0=0;;", firstErrorOf("b0=0;;"), 3);
            due("s8>5", firstErrorOf("s8>5"), 1);
            changesNothing(Checks::busy, "firstError()", ParishYards::firstError);
            changesNothing(() -> type(new ParishYards(), "x"), "firstError()", ParishYards::firstError);
        }

        @Says("Returns the index of the first character that is a syntax error; the length of the buffer if there is none.")
        static void theIndexOfTheFirstErrorIsTold() {
            due("the first character", firstErrorOf("5"), 0);
            due("the last of 60", firstErrorOf("b0=1;".repeat(11) + "b0=1x"), 59);
            due("the first of 60", firstErrorOf("x".repeat(60)), 0);
            due("in a part behind", firstErrorOf("b0=1;0>1=1/1;-5"), 14);
        }

        @Says("Returns the index of the first character that is a syntax error; the length of the buffer if there is none.")
        static void theLengthIsToldIfThereIsNone() {
            due("empty", firstErrorOf(""), 0);
            due("complete", firstErrorOf("b0=1"), 4);
            due("not complete", firstErrorOf("b0="), 3);
            due("full and complete", firstErrorOf(FULL_WORKS), 60);
            due("full and not complete", fullBuffer().firstError(), 60);
        }
    }

    @Section("Promise 12: work")
    static final class Work {
        private static final String DOES = "Does what the buffer tells, part by part, up to the first part for which the "
                + "method would throw an exception, and clears the buffer.";
        private static final String UNDOABLE = "Undoable, as one call, also if nothing is done.";
        private static final String STOP = "The latest stop is that of this call then, or none, if all are done.";
        private static final String COMPLETE = "Throws `IllegalArgumentException` if the buffer is not complete works "
                + "as a text (the buffer stays)";

        @Says(DOES)
        static void aPartSeesWhatThoseBeforeItDid() {
            ParishYards x = new ParishYards();
            due("all", told(x, "0>1=3/2;b0=5;s0>1;-1>0;0>1=1/1;s0>0"), 600);
            due("7.5 to 8, and back by 1 / 1", x.boltOf(0, 1), 8);
            due("how often it was sent", x.boltOf(0, 3), 2);
        }

        @Says(DOES)
        static void partsBehindTheFirstThatStopsAreNotDone() {
            ParishYards x = new ParishYards();
            due("part 1 stops", told(x, "b0=5;s0>0;b1=6;b2=7"), 111);
            due("bolts", x.count(5), 1);
            ParishYards y = new ParishYards();
            due("part 0 stops", told(y, "s0>0;b1=6;b2=7"), 7);
            due("bolts", y.count(5), 0);
            ParishYards z = new ParishYards();
            due("the last part stops", told(z, "b1=6;b2=7;-0>1"), 226);
            due("bolts", z.count(5), 2);
        }

        @Says(DOES)
        static void theBufferIsClearedAlsoByAStop() {
            ParishYards x = new ParishYards();
            told(x, "b0=5");
            due("all done", x.clearBuffer(), 0);
            told(x, "b0=5;s0>0;b0=6");
            due("stopped", x.clearBuffer(), 0);
            told(x, "s7>0");
            due("nothing done", x.clearBuffer(), 0);
        }

        @Says(UNDOABLE)
        static void manyPartsAreUndoneAsOneCall() {
            ParishYards x = new ParishYards();
            long before = x.digest();
            told(x, "0>1=3/2;b0=5;s0>1;b3=9;-0>1;b1=1;b2=2");
            due("saved states", x.count(17), 1);
            due("undo()", x.undo(), 0);
            due("the state", x.digest(), before);
        }

        @Says(UNDOABLE)
        static void nothingDoneIsUndoableToo() {
            ParishYards x = new ParishYards();
            long before = x.digest();
            due("nothing is done", told(x, "s0>1"), 7);
            due("saved states", x.count(17), 1);
            x.undo();
            due("the state", x.digest(), before);
            due("no stop again", x.stopped(1), NONE);
        }

        @Says(UNDOABLE)
        static void aStopHalfwayIsUndoneAsOneCall() {
            ParishYards x = new ParishYards();
            long before = x.digest();
            told(x, "b0=5;0>1=1/1;s0>1;s0>1;b0=9");
            due("saved states", x.count(17), 1);
            x.undo();
            due("the state", x.digest(), before);
        }

        @Says(STOP)
        static void theLatestStopIsThatOfThisCall() {
            ParishYards x = new ParishYards();
            due("one", told(x, "b0=5;s0>0"), 111);
            due("another", told(x, "s5>0"), 7);
            due("part", x.stopped(0), 0);
        }

        @Says(STOP)
        static void thereIsNoStopIfAllAreDone() {
            ParishYards x = new ParishYards();
            told(x, "s5>0");
            due("stopped(1)", x.stopped(1), 7);
            told(x, "b0=5");
            due("stopped(0)", x.stopped(0), NONE);
            due("stopped(1)", x.stopped(1), NONE);
        }

        @Says("Returns how many parts are done.")
        static void thePartsThatAreDoneAreTold() {
            due("none", type(new ParishYards(), "s0>0;b0=1").work(), 0);
            due("one of two", type(new ParishYards(), "b0=1;s0>0").work(), 1);
            due("all of two", type(new ParishYards(), "b0=1;b0=1").work(), 2);
            due("eight of nine", type(new ParishYards(), "b0=1;b0=1;b0=1;b0=1;b0=1;b0=1;b0=1;b0=1;b0=1").work(), 8);
            String most = "b0=1" + ";s0>1;s0>0".repeat(5) + ";s0>1";
            due("as many as there can be", type(oneTable(1, 1), most).work(), 12);
        }

        @Says(COMPLETE)
        static void notCompleteWorksAreRefused() {
            String[] texts = {"", "b0=1;", "b0=", "0>1=5/", "s0>", "-", "x", "b0=1x", "b0=1;;b0=1", ";b0=1"};
            for (String text : texts) {
                refused(() -> type(new ParishYards(), text), ARGUMENT, "work of " + text, ParishYards::work);
            }
        }

        @Says(COMPLETE)
        static void theBufferStays() {
            ParishYards x = type(new ParishYards(), "b0=1;b");
            dueThrown("work()", x, ARGUMENT, ParishYards::work);
            due("no part is done", x.count(5), 0);
            due("no state is saved", x.count(17), 0);
            type(x, "3=44");
            due("the text can go on", x.work(), 2);
            due("the second bolt", x.boltOf(1, 1), 44);
        }

        @Says(COMPLETE)
        static void theStopOfACallBeforeStays() {
            ParishYards x = new ParishYards();
            told(x, "b0=1;s4>0");
            type(x, "b");
            dueThrown("work()", x, ARGUMENT, ParishYards::work);
            due("part", x.stopped(0), 1);
            due("reason", x.stopped(1), 7);
        }
    }

    @Section("Promise 13: stopped")
    static final class Stopped {
        @Says("Tells of the latest stop of work().")
        static void theLatestStopIsTold() {
            ParishYards x = new ParishYards();
            told(x, "s0>0");
            told(x, "b0=1;b1=1;b2=1;-0>0");
            due("part", x.stopped(0), 3);
            due("reason", x.stopped(1), 4);
            changesNothing(Checks::busy, "stopped(0)", y -> y.stopped(0));
        }

        @Says("Tells of the latest stop of work().")
        static void callsThatAreRefusedAreNoStop() {
            ParishYards x = new ParishYards();
            dueThrown("drop(0, 1)", x, STATE, y -> y.drop(0, 1));
            due("stopped(1)", x.stopped(1), NONE);
            told(x, "s5>0");
            dueThrown("drop(0, 1)", x, STATE, y -> y.drop(0, 1));
            x.bolt(0, 1);
            due("stopped(1)", x.stopped(1), 7);
        }

        @Says("0: the number of the part that stopped it, from 0")
        static void thePartIsNumberedFrom0() {
            due("part 0", told(new ParishYards(), "-0>1;b0=1") % 100, 6);
            due("part 1", told(new ParishYards(), "b0=1;-0>1;b0=1") % 100, 16);
            due("part 2", told(new ParishYards(), "b0=1;b0=1;-0>1") % 100, 26);
            ParishYards x = oneTable(1, 1);
            type(x, "b0=1" + ";s0>1;s0>0".repeat(5) + ";s0>0").work();
            due("part 11", x.stopped(0), 11);
        }

        @Says("1: the reason: 1 to 3 for a bolt that cannot be sent")
        static void reasons1To3() {
            due("1: it lies there", told(new ParishYards(), "b2=9;s0>2"), 111);
            due("2: there is no table", told(new ParishYards(), "b2=9;s0>1"), 112);
            due("3: above 99999", told(new ParishYards(), "0>1=50/1;b0=2000;s0>1"), 223);
            due("just 99999", told(new ParishYards(), "0>1=41/1;b0=2439;s0>1"), 300);
        }

        @Says("4 for two parishes that are the same, of a table that is set or dropped")
        static void reason4() {
            due("of a table", told(new ParishYards(), "4>4=1/1"), 4);
            due("of a table that would gain", told(new ParishYards(), "4>4=2/1"), 4);
            due("of a drop", told(new ParishYards(), "-0>0"), 4);
            due("but 1 of a bolt", told(new ParishYards(), "b0=1;s0>0"), 111);
        }

        @Says("5 for a ring that would be off")
        static void reason5() {
            due("of three", told(new ParishYards(), "0>1=1/1;1>2=1/1;2>0=98/99"), 225);
            due("by setting 0 it would not", told(ringBy(102, 1, 1), "2>0=98/99"), 100);
            due("by a setting that is less by 1", told(ringBy(101, 1, 1), "2>0=98/99"), 5);
            due("of five", told(chain(), "4>0=1/2"), 5);
        }

        @Says("6 for a table that there is not")
        static void reason6() {
            due("no tables", told(new ParishYards(), "-3>4"), 6);
            due("dropped before", told(oneTable(1, 1), "-0>1;-1>0"), 116);
        }

        @Says("7 for a bolt that there is not")
        static void reason7() {
            due("no bolts", told(new ParishYards(), "s0>0"), 7);
            due("bolt 7 of 7", told(new ParishYards(), "b0=1;b0=1;b0=1;b0=1;b0=1;b0=1;b0=1;s7>1"), 777);
            due("bolt 7 of 8, without a table", told(eightBolts(), "s7>1"), 2);
            due("bolt 1 of 1", told(new ParishYards(), "b0=1;s1>0"), 117);
        }

        @Says("8 for a ninth bolt")
        static void reason8() {
            due("a ninth", told(eightBolts(), "b0=1"), 8);
            due("an eighth and a ninth", told(new ParishYards(), "b0=1;b0=1;b0=1;b0=1;b0=1;b0=1;b0=1;b0=1;b0=1"), 888);
        }

        @Says("- `what`: ")
        static void whatIs0Or1() {
            bounds(Checks::busy, ARGUMENT, "stopped(_)", (x, v) -> x.stopped(v), 0, 1);
        }

        @Says("Returns the number; NONE if there is no stop.")
        static void noneIfThereIsNoStop() {
            due("part, at first", new ParishYards().stopped(0), NONE);
            due("reason, at first", new ParishYards().stopped(1), NONE);
            ParishYards x = new ParishYards();
            told(x, "b0=1");
            due("part, all done", x.stopped(0), NONE);
            due("reason, all done", x.stopped(1), NONE);
            told(x, "-0>1");
            due("part 0", x.stopped(0), 0);
            x.undo();
            due("undone", x.stopped(0), NONE);
        }

        @Says("Throws `IllegalArgumentException` if what is neither 0 nor 1")
        static void whatIsNeither0Nor1() {
            refused(Checks::busy, ARGUMENT, "stopped(-1)", x -> x.stopped(-1));
            refused(Checks::busy, ARGUMENT, "stopped(2)", x -> x.stopped(2));
            refused(ParishYards::new, ARGUMENT, "stopped(2) without a stop", x -> x.stopped(2));
        }
    }
}
