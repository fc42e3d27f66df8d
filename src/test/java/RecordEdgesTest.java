/**
 * Promises 34 and 43 to 49 and the sections 4 and 5: which steps make a record, which of them count, and
 * the records and the log when they are empty, full and one more.
 */
public final class RecordEdgesTest {
    private static final Check CHECK = new Check();
    /** The voltage is 3000 more than the charge; a small current adds nothing to it. */
    private static final String CELL = "curve a 3000 4000;efficiency 1000;heat 10000 0;cell a 1000 1 0 1;";
    private static final int[] NO_INDEX = {-1, 60, Integer.MIN_VALUE, Integer.MAX_VALUE};

    private static CellCycler at(String text, int charge) {
        CellCycler x = Check.loaded(CELL + text);
        x.replace(0, charge);
        return x;
    }

    private static void run(CellCycler x, int program, int ticks) {
        x.stop(0);
        x.start(0, program);
        x.advance(ticks);
    }

    private static void record(CellCycler x, int index, int... due) {
        for (int what = 0; what < due.length; what++) {
            CHECK.same("record " + index + ", " + what, x.record(index, what), due[what]);
        }
    }

    private static void entry(CellCycler x, int index, int... due) {
        for (int what = 0; what < due.length; what++) {
            CHECK.same("entry " + index + ", " + what, x.logEntry(index, what), due[what]);
        }
    }

    // ---- records

    private static void endedByWhat() {
        // From 100 the charge is 0 and the voltage 3000 behind one tick.
        int[] voltages = {0, 2999, 3000, 3001, 5000};
        for (int voltage : voltages) {
            CellCycler x = at("program hold 3000 5000 discharge 100 " + voltage, 100);
            run(x, 0, 2);
            record(x, 0, 0, 0, 100, 2, voltage >= 3000 ? 1 : 0, 0);
            CHECK.same("capacity with " + voltage, x.capacityByRule(0), voltage >= 3000 ? 100 : -1);
            CHECK.same("done", x.value(0, 0), 3);
        }
        CellCycler left = at("program hold 3000 5000 discharge 100 3001", 101);
        run(left, 0, 2);
        record(left, 0, 0, 0, 100, 2, 1, 0);
        CHECK.same("1 is left", left.value(0, 6), 1);
    }

    private static void ofNothing() {
        CellCycler x = at("program hold 0 5000 discharge 100 2999;program hold 0 5000 discharge 100 3000", 0);
        run(x, 0, 2);
        record(x, 0, 0, 0, 0, 2, 0, 0);
        CHECK.same("ended only as it was empty", x.capacityByRule(0), -1);
        run(x, 1, 2);
        record(x, 1, 0, 0, 0, 4, 1, 0);
        CHECK.same("by its voltage too: 0 is a capacity", x.capacityByRule(0), 0);
    }

    private static void endsThatMakeNone() {
        CellCycler x = at("program discharge 100 3000 rest 9;program hold 3000 5000 rest 1 charge 1 0", 500);
        run(x, 0, 2);
        x.pause(0);
        x.advance(2);
        CHECK.same("a pause", x.recordCount(), 0);
        x.resume(0);
        x.skip(0);
        CHECK.same("a skip", x.recordCount(), 0);
        run(x, 0, 1);
        x.stop(0);
        CHECK.same("a stop", x.recordCount(), 0);
        run(x, 1, 9);
        CHECK.same("hold, rest and charge", x.recordCount() * 10 + x.value(0, 0), 3);
        x.setLimits(3200, 5000);
        run(x, 0, 2);
        CHECK.same("it trips", x.value(0, 0), 4);
        CHECK.same("a trip", x.recordCount(), 0);
        CellCycler both = at("limits 3401 5000 600;program discharge 100 3400", 500);
        run(both, 0, 1);
        CHECK.same("a trip where it would end", both.value(0, 0) * 10 + both.recordCount(), 40);
    }

    private static void holdSinceTheRecordBefore() {
        CellCycler x = at("program hold 3000 5000 discharge 10 3490 discharge 20 3470 hold 3000 5000 rest 1 "
                + "charge 5 3000 discharge 40 3435 hold 3000 5000;program discharge 5 3430;"
                + "program hold 3000 5000 rest 9;program discharge 3 3427", 500);
        CHECK.same("no capacity", x.capacityByRule(0), -1);
        run(x, 0, 2);
        record(x, 0, 0, 0, 10, 2, 1, 0);
        CHECK.same("the first", x.capacityByRule(0), 10);
        x.advance(1);
        record(x, 1, 0, 0, 20, 3, 0, 0);
        CHECK.same("no hold since", x.capacityByRule(0), 10);
        x.advance(4);
        record(x, 2, 0, 5, 40, 7, 1, 8000);
        CHECK.same("a hold since", x.capacityByRule(0), 40);
        x.advance(1);
        CHECK.same("done", x.value(0, 0), 3);
        run(x, 1, 1);
        record(x, 3, 0, 0, 5, 9, 0, 0);
        run(x, 2, 3);
        run(x, 3, 1);
        record(x, 4, 0, 0, 3, 13, 0, 0);
        CHECK.same("stays", x.capacityByRule(0), 40);
        CHECK.same("five records", x.recordCount(), 5);
        CHECK.same("two count", x.counting(0), 2);
        CHECK.same("30 more", x.loss(0), -30);
        x.replace(0, 500);
        CHECK.same("none of a new cell", x.capacityByRule(0), -1);
        CHECK.same("the records stay", x.recordCount() * 10 + x.counting(0), 52);
        CHECK.same("and the loss", x.loss(0), -30);
    }

    private static void holdInTheQueue() {
        CellCycler x = at("program hold 3000 5000;program discharge 10 3490;program hold 3000 5000 discharge 5 3485", 500);
        x.enqueue(0, 1);
        x.enqueue(0, 2);
        run(x, 0, 2);
        record(x, 0, 0, 0, 10, 2, 0, 0);
        x.advance(2);
        record(x, 1, 0, 0, 5, 4, 1, 0);
        CHECK.same("of its own program", x.counting(0), 1);
    }

    private static void sinceStartOfProgram() {
        CellCycler x = at("program charge 7 5000;program discharge 10 3000;program charge 1 0 discharge 20 5000", 500);
        run(x, 0, 3);
        run(x, 1, 3);
        run(x, 2, 2);
        record(x, 0, 0, 1, 20, 8, 0, 20000);
        CHECK.same("all that went in", x.ledger(0, 0), 22L);
        CHECK.same("and out", x.ledger(0, 1), 50L);
        CellCycler loop = at("program charge 3 0 discharge 10 5000 repeat 0 2", 500);
        run(loop, 0, 6);
        for (int k = 0; k < 3; k++) {
            record(loop, k, 0, 3, 10, 2 * k + 2, 0, 3333);
        }
        CHECK.same("three", loop.recordCount(), 3);
    }

    private static void capacityOfTheStep() {
        CellCycler x = at("program discharge 50 3000 hold 3000 5000 discharge 10 3435 rest 9", 500);
        run(x, 0, 1);
        x.skip(0);
        x.advance(1);
        x.pause(0);
        x.advance(3);
        x.resume(0);
        x.advance(2);
        record(x, 0, 0, 0, 70, 7, 1, 0);
        CHECK.same("what went out in this step", x.capacityByRule(0), 20);
    }

    private static void thousandthsOfRecords() {
        CellCycler x = at("program charge 3 0 discharge 1 5000;program charge 1 0 discharge 3 5000;"
                + "program discharge 3 5000", 500);
        run(x, 0, 2);
        CHECK.same("1000 / 3", x.record(0, 5), 333);
        run(x, 1, 2);
        CHECK.same("3000 / 1", x.record(1, 5), 3000);
        run(x, 2, 1);
        CHECK.same("none went in", x.record(2, 5), 0);
        CHECK.same("3 went out", x.record(2, 2), 3);
    }

    private static void greatRecords() {
        CellCycler x = Check.loaded("curve a 3000 3000;efficiency 1000;heat 10000 0;cell a 100000 1 0 1;"
                + "program charge 5000 5000 discharge 5000 0 repeat 0 50");
        x.start(0, 0);
        for (int n = 0; n < 12; n++) {
            x.advance(40);
            x.skip(0);
            x.advance(39);
            CHECK.same("5000 are left", x.value(0, 6), 5000);
            if (n < 11) {
                x.skip(0);
            }
        }
        x.advance(1);
        record(x, 0, 0, 12 * 200000, 12 * 195000 + 5000, 12 * 79 + 1, 0, 977);
    }

    private static void noRecords() {
        CellCycler x = Check.loaded(CELL + "program discharge 1 5000");
        CHECK.same("none", x.recordCount(), 0);
        CHECK.same("none counts", x.counting(0), 0);
        CHECK.same("no loss", x.loss(0), 0);
        CHECK.same("not the first", x.record(0, 0), -1);
        run(x, 0, 1);
        CHECK.same("one", x.recordCount(), 1);
        CHECK.same("the first", x.record(0, 0), 0);
        CHECK.same("not the second", x.record(1, 0), -1);
        for (int index : NO_INDEX) {
            for (int what = 0; what < 6; what++) {
                CHECK.same("record " + index, x.record(index, what), -1);
            }
            for (int what : new int[] {-1, 6, Integer.MIN_VALUE, Integer.MAX_VALUE}) {
                CHECK.fails("record " + index, "argument", () -> x.record(index, what));
                CHECK.fails("record 0", "argument", () -> x.record(0, what));
            }
        }
        CHECK.same("load", Check.load(x, CELL + "ambient 1"), 1);
        CHECK.same("load begins anew", x.recordCount(), 0);
        CHECK.same("without the first", x.record(0, 0), -1);
        CellCycler none = new CellCycler();
        CHECK.same("no description", none.recordCount(), 0);
        CHECK.fails("counting without channels", "index", () -> none.counting(0));
        CHECK.fails("loss without channels", "index", () -> none.loss(0));
    }

    private static final String LOOP = "cell a 1000 1 0 1;program hold 0 5000 discharge 3 5000;"
            + "program discharge 1 5000 repeat 0 50;program hold 0 5000 discharge 1 5000 repeat 0 50";

    private static void thirtyOfTwoChannels() {
        CellCycler x = at(LOOP, 500);
        run(x, 0, 2);
        x.start(1, 1);
        x.advance(28);
        CHECK.same("29", x.recordCount(), 29);
        CHECK.same("no 30th", x.record(29, 0), -1);
        x.advance(1);
        CHECK.same("30", x.recordCount(), 30);
        record(x, 0, 0, 0, 3, 2, 1, 0);
        record(x, 29, 1, 0, 1, 31, 0, 0);
        CHECK.same("one counts", x.counting(0), 1);
        x.advance(1);
        CHECK.same("still 30", x.recordCount(), 30);
        record(x, 0, 1, 0, 1, 3, 0, 0);
        record(x, 29, 1, 0, 1, 32, 0, 0);
        CHECK.same("no 31st", x.record(30, 0), -1);
        CHECK.same("that of the other is gone", x.counting(0), 0);
        CHECK.same("its capacity is not", x.capacityByRule(0), 3);
        run(x, 0, 2);
        CHECK.same("it is the last but one", x.record(28, 0), 0);
        CHECK.same("as its tick comes first", x.record(29, 0), 1);
        CHECK.same("of one tick", x.record(28, 3) * 100 + x.record(29, 3), 3434);
    }

    private static void lossOfThoseKept() {
        CellCycler x = at(LOOP, 500);
        run(x, 0, 2);
        CHECK.same("no loss of one", x.loss(0), 0);
        CHECK.same("one", x.counting(0), 1);
        run(x, 2, 2);
        CHECK.same("loss of two", x.loss(0), 2);
        x.advance(56);
        CHECK.same("30", x.recordCount(), 30);
        CHECK.same("all count", x.counting(0), 30);
        CHECK.same("from the oldest one", x.loss(0), 2);
        x.advance(2);
        CHECK.same("30 still", x.counting(0), 30);
        CHECK.same("without the oldest one", x.loss(0), 0);
        run(x, 0, 2);
        CHECK.same("one more", x.loss(0), -2);
        CHECK.same("the other has none", x.loss(1) + x.counting(1), 0);
        x.start(1, 1);
        x.advance(29);
        CHECK.same("one is left", x.counting(0), 1);
        CHECK.same("no loss of one", x.loss(0), 0);
        x.advance(1);
        CHECK.same("none is left", x.counting(0), 0);
        CHECK.same("no loss of none", x.loss(0), 0);
    }

    private static void lossLeavesOutOthers() {
        CellCycler x = at("cell a 1000 1 0 1;program discharge 90 5000 hold 0 5000 discharge 30 5000 "
                + "discharge 80 5000 hold 0 5000 discharge 20 5000 discharge 70 5000;"
                + "program hold 0 5000 discharge 7 5000 hold 0 5000 discharge 7 5000", 900);
        x.start(0, 0);
        x.start(1, 1);
        x.advance(7);
        CHECK.same("records", x.recordCount(), 7);
        CHECK.same("from 30 to 20", x.loss(0), 10);
        CHECK.same("two count", x.counting(0), 2);
        CHECK.same("from 7 to 7", x.loss(1), 0);
        CHECK.same("two count there", x.counting(1), 2);
        CHECK.same("the latest counts", x.capacityByRule(0), 20);
    }

    // ---- the log

    private static void logOfSixty() {
        CellCycler x = Check.loaded(CELL + "program rest 1 repeat 0 50 repeat 0 50");
        CHECK.same("empty", x.logSize(), 0);
        CHECK.same("no entry 0", x.logEntry(0, 0), -1);
        x.start(0, 0);
        CHECK.same("one", x.logSize(), 1);
        entry(x, 0, 0, 0, 0, 0);
        CHECK.same("no entry 1", x.logEntry(1, 0), -1);
        x.advance(58);
        CHECK.same("59", x.logSize(), 59);
        CHECK.same("no entry 59", x.logEntry(59, 0), -1);
        x.advance(1);
        CHECK.same("60", x.logSize(), 60);
        entry(x, 0, 0, 0, 0, 0);
        entry(x, 59, 59, 0, 1, 0);
        CHECK.same("starts", x.eventsOf(0, 0), 1);
        CHECK.same("ends", x.eventsOf(0, 1), 59);
        x.advance(1);
        CHECK.same("still 60", x.logSize(), 60);
        entry(x, 0, 1, 0, 1, 0);
        entry(x, 59, 60, 0, 1, 0);
        CHECK.same("no starts", x.eventsOf(0, 0), 0);
        CHECK.same("60 ends", x.eventsOf(0, 1), 60);
        x.advance(1000);
        entry(x, 0, 1001, 0, 1, 0);
        entry(x, 59, 1060, 0, 1, 0);
        for (int k = 0; k < 60; k++) {
            CHECK.same("in their order", x.logEntry(k, 0), 1001 + k);
        }
        CHECK.same("load", Check.load(x, CELL + "ambient 1"), 1);
        CHECK.same("load begins anew", x.logSize(), 0);
        CHECK.same("without an entry", x.logEntry(0, 0), -1);
        CHECK.same("nothing ended", x.eventsOf(0, 1), 0);
    }

    private static void noEntries() {
        CellCycler x = Check.loaded(CELL + "program rest 1");
        x.start(0, 0);
        for (int index : NO_INDEX) {
            for (int what = 0; what < 4; what++) {
                CHECK.same("entry " + index, x.logEntry(index, what), -1);
            }
            for (int what : new int[] {-1, 4, Integer.MIN_VALUE, Integer.MAX_VALUE}) {
                CHECK.fails("entry " + index, "argument", () -> x.logEntry(index, what));
                CHECK.fails("entry 0", "argument", () -> x.logEntry(0, what));
            }
        }
        for (int event : new int[] {-1, 6, Integer.MIN_VALUE, Integer.MAX_VALUE}) {
            CHECK.fails("event " + event, "argument", () -> x.eventsOf(0, event));
            CHECK.fails("the channel first", "index", () -> x.eventsOf(1, event));
        }
        CellCycler none = new CellCycler();
        CHECK.same("no description", none.logSize(), 0);
        CHECK.same("no entry", none.logEntry(0, 0), -1);
        CHECK.fails("no channel", "index", () -> none.eventsOf(0, 0));
    }

    private static void logOfTwoChannels() {
        CellCycler x = Check.loaded(CELL + "cell a 1000 1 0 1;program rest 1 repeat 0 50;program rest 5000");
        x.start(1, 1);
        x.start(0, 0);
        x.advance(51);
        CHECK.same("two starts, 51 ends and all", x.logSize(), 54);
        for (int n = 0; n < 3; n++) {
            x.stop(0);
            x.start(0, 1);
        }
        x.stop(0);
        x.replace(0, 1);
        x.replace(0, 2);
        x.replace(0, 3);
        CHECK.same("60", x.logSize(), 60);
        CHECK.same("the start of the other is the oldest", x.eventsOf(1, 0), 1);
        x.replace(0, 4);
        CHECK.same("it is gone", x.eventsOf(1, 0), 0);
        CHECK.same("the next one is not", x.eventsOf(0, 0), 4);
        x.replace(0, 5);
        CHECK.same("now it is", x.eventsOf(0, 0), 3);
        CHECK.same("replaced", x.eventsOf(0, 5), 5);
    }

    private static void numbersOfEvents() {
        CellCycler x = Check.loaded(CELL + "cell a 1000 1 0 1;program rest 1;program rest 2 rest 1;"
                + "program rest 1 rest 3;warn 0 3499 1000");
        x.advance(2);
        x.start(1, 2);
        x.enqueue(1, 1);
        x.advance(4);
        x.replace(0, 100);
        x.setLimits(0, 3499);
        x.advance(1);
        int[][] due = {{2, 1, 0, 2}, {3, 1, 4, 1}, {3, 1, 1, 0}, {6, 1, 1, 1}, {6, 1, 2, 0}, {6, 1, 0, 1},
            {6, 0, 5, 0}, {7, 1, 3, 1}};
        for (int k = 0; k < due.length; k++) {
            entry(x, k, due[k]);
        }
        CHECK.same("all", x.logSize(), due.length);
        for (int event = 0; event < 6; event++) {
            CHECK.same("of 0: " + event, x.eventsOf(0, event), event == 5 ? 1 : 0);
            CHECK.same("of 1: " + event, x.eventsOf(1, event), new int[] {2, 2, 1, 1, 1, 0}[event]);
        }
    }

    private static void orderInOneTick() {
        CellCycler x = Check.loaded(CELL + "cell a 1000 1 0 1;cell a 1000 1 0 1;warn 0 3499 1000;"
                + "limits 0 3550 600;program rest 1;program charge 51 5000");
        x.start(2, 0);
        x.start(1, 1);
        x.start(0, 0);
        x.enqueue(2, 1);
        x.advance(1);
        int[][] due = {{0, 2, 0, 0}, {0, 1, 0, 1}, {0, 0, 0, 0}, {1, 0, 4, 1}, {1, 0, 1, 0}, {1, 0, 2, 0},
            {1, 1, 4, 1}, {1, 1, 3, 1}, {1, 2, 4, 1}, {1, 2, 1, 0}, {1, 2, 2, 0}, {1, 2, 0, 1}};
        for (int k = 0; k < due.length; k++) {
            entry(x, k, due[k]);
        }
        CHECK.same("all", x.logSize(), due.length);
    }

    private static void warningsBySteps() {
        CellCycler x = Check.loaded(CELL + "warn 0 3599 1000;limits 0 3699 600;program charge 100 5000");
        x.start(0, 0);
        x.advance(2);
        int[][] due = {{0, 0, 0, 0}, {1, 0, 4, 1}, {2, 0, 3, 1}};
        for (int k = 0; k < due.length; k++) {
            entry(x, k, due[k]);
        }
        CHECK.same("the second tick has no new warning", x.logSize(), 3);
    }

    private static void whatIsNoEvent() {
        CellCycler x = Check.loaded(CELL + "program rest 9 rest 9");
        x.start(0, 0);
        x.advance(1);
        x.pause(0);
        x.resume(0);
        x.enqueue(0, 0);
        x.dequeue(0);
        x.setAmbient(1);
        x.setLimits(0, 5000);
        x.setDerate(1);
        x.saveSnapshot(0);
        x.doneIn(0);
        x.capacityIf(0, 0);
        x.advance(1);
        x.stop(0);
        CHECK.same("only its start", x.logSize(), 1);
        x.start(0, 0);
        x.skip(0);
        entry(x, 2, 2, 0, 1, 0);
        x.skip(0);
        entry(x, 3, 2, 0, 1, 1);
        entry(x, 4, 2, 0, 2, 0);
        CHECK.same("skips are told as ends", x.logSize(), 5);
    }

    public static void main(String[] args) {
        endedByWhat();
        ofNothing();
        endsThatMakeNone();
        holdSinceTheRecordBefore();
        holdInTheQueue();
        sinceStartOfProgram();
        capacityOfTheStep();
        thousandthsOfRecords();
        greatRecords();
        noRecords();
        thirtyOfTwoChannels();
        lossOfThoseKept();
        lossLeavesOutOthers();
        logOfSixty();
        noEntries();
        logOfTwoChannels();
        numbersOfEvents();
        orderInOneTick();
        warningsBySteps();
        whatIsNoEvent();
        CHECK.finish();
    }
}
