/** Promises 34 and 43 to 49: records, the capacity by rule and the log. */
public final class RecordTest {
    private static final Check CHECK = new Check();
    private static final String CELL = "curve a 3000 4000;efficiency 1000;cell a 1000 100 0 1;";

    private static void record(CellCycler x, int index, int... due) {
        for (int what = 0; what < due.length; what++) {
            CHECK.same("record " + index + " " + what, x.record(index, what), due[what]);
        }
    }

    private static void whatCounts() {
        CellCycler x = Check.loaded(CELL
                + "program hold 3500 5000 discharge 100 3450 discharge 100 3340");
        CHECK.same("no records", x.recordCount(), 0);
        CHECK.same("no capacity", x.capacityByRule(0), -1);
        x.start(0, 0);
        x.advance(2);
        record(x, 0, 0, 0, 100, 2, 1, 0);
        CHECK.same("capacity", x.capacityByRule(0), 100);
        x.advance(1);
        record(x, 1, 0, 0, 100, 3, 0, 0);
        CHECK.same("capacity of the first", x.capacityByRule(0), 100);
        CHECK.same("two records", x.recordCount(), 2);
        CHECK.same("one counts", x.counting(0), 1);
        CHECK.same("no loss of one", x.loss(0), 0);
        CHECK.same("no record 2", x.record(2, 0), -1);
        CHECK.same("no record -1", x.record(-1, 0), -1);
        CHECK.fails("what -1", "argument", () -> x.record(0, -1));
        CHECK.fails("what 6 of no record", "argument", () -> x.record(9, 6));
        for (int channel : new int[] {-1, 1}) {
            CHECK.fails("counting", "index", () -> x.counting(channel));
            CHECK.fails("loss", "index", () -> x.loss(channel));
            CHECK.fails("capacityByRule", "index", () -> x.capacityByRule(channel));
        }
    }

    private static void emptyCells() {
        CellCycler x = Check.loaded(CELL
                + "program hold 3500 5000 discharge 5000 0;program hold 0 5000 discharge 5000 3000");
        x.start(0, 0);
        x.advance(2);
        record(x, 0, 0, 0, 500, 2, 0, 0);
        CHECK.same("ended only because it is empty", x.capacityByRule(0), -1);
        x.replace(0, 400);
        x.start(0, 1);
        x.advance(2);
        record(x, 1, 0, 0, 400, 4, 1, 0);
        CHECK.same("ended by its voltage too", x.capacityByRule(0), 400);
    }

    private static void sinceWhen() {
        CellCycler x = Check.loaded(CELL + "program charge 100 5000 discharge 100 3400;"
                + "program hold 3400 5000 rest 9 discharge 100 3300;program discharge 100 3300;"
                + "program hold 3500 5000 discharge 100 3000 discharge 100 3300");
        x.start(0, 0);
        x.advance(2);
        x.stop(0);
        x.start(0, 0);
        x.advance(1);
        x.skip(0);
        x.advance(5);
        // From 800 down to 400, where the voltage is 3390.
        CHECK.same("done", x.value(0, 0), 3);
        record(x, 0, 0, 100, 400, 7, 0, 4000);
        x.start(0, 1);
        x.advance(1);
        x.stop(0);
        x.start(0, 2);
        x.advance(1);
        record(x, 1, 0, 0, 100, 10, 0, 0);
        x.replace(0, 500);
        x.start(0, 3);
        x.advance(2);
        x.skip(0);
        x.advance(1);
        // The record tells of both discharge steps, the capacity only of the second one.
        record(x, 2, 0, 0, 200, 13, 1, 0);
        CHECK.same("of the step", x.capacityByRule(0), 100);
    }

    private static void losses() {
        CellCycler x = Check.loaded(CELL + "cell a 1000 100 0 1;"
                + "program hold 3500 5000 discharge 100 3400;program discharge 100 3400");
        int[] charges = {700, 500, 600};
        for (int charge : charges) {
            x.replace(0, charge);
            x.start(0, 0);
            x.advance(9);
            x.start(1, 1);
            x.advance(9);
            x.stop(1);
        }
        CHECK.same("records", x.recordCount(), 6);
        CHECK.same("counting", x.counting(0), 3);
        CHECK.same("from 300 to 200", x.loss(0), 100);
        CHECK.same("counting of the other", x.counting(1), 0);
        CHECK.same("loss of the other", x.loss(1), 0);
        x.replace(0, 800);
        x.start(0, 0);
        x.advance(9);
        CHECK.same("negative", x.loss(0), -100);
    }

    private static void latestRecords() {
        CellCycler x = Check.loaded(CELL + "program discharge 1 5000 repeat 0 50;"
                + "program hold 0 5000 discharge 1 5000");
        x.start(0, 1);
        x.advance(2);
        CHECK.same("one counts", x.counting(0), 1);
        x.start(0, 0);
        CHECK.same("a step a tick", x.advance(29), 29);
        CHECK.same("30", x.recordCount(), 30);
        CHECK.same("still there", x.counting(0), 1);
        x.advance(1);
        CHECK.same("still 30", x.recordCount(), 30);
        CHECK.same("gone", x.counting(0), 0);
        record(x, 0, 0, 0, 1, 3, 0, 0);
        record(x, 29, 0, 0, 1, 32, 0, 0);
        x.advance(20);
        CHECK.same("the oldest", x.record(0, 3), 23);
        CHECK.same("the latest", x.record(29, 3), 52);
        CHECK.same("no more", x.record(30, 3), -1);
        CHECK.same("the capacity by rule stays", x.capacityByRule(0), 1);
    }

    private static void log() {
        CellCycler x = Check.loaded(CELL + "cell a 1000 100 0 1;program rest 1 repeat 0 50;program rest 2");
        CHECK.same("empty", x.logSize(), 0);
        x.start(1, 1);
        x.start(0, 0);
        x.advance(2);
        int[][] due = {{0, 1, 0, 1}, {0, 0, 0, 0}, {1, 0, 1, 0}, {2, 0, 1, 0}, {2, 1, 1, 0},
            {2, 1, 2, 0}};
        for (int k = 0; k < due.length; k++) {
            for (int what = 0; what < 4; what++) {
                CHECK.same("entry " + k + " " + what, x.logEntry(k, what), due[k][what]);
            }
        }
        CHECK.same("size", x.logSize(), 6);
        CHECK.same("no entry 6", x.logEntry(6, 0), -1);
        CHECK.same("no entry -1", x.logEntry(-1, 0), -1);
        CHECK.fails("what -1", "argument", () -> x.logEntry(0, -1));
        CHECK.fails("what 4 of no entry", "argument", () -> x.logEntry(9, 4));
        CHECK.same("starts of 0", x.eventsOf(0, 0), 1);
        CHECK.same("steps of 0", x.eventsOf(0, 1), 2);
        CHECK.same("end of 0", x.eventsOf(0, 2), 0);
        CHECK.same("end of 1", x.eventsOf(1, 2), 1);
        CHECK.same("no cell replaced", x.eventsOf(1, 5), 0);
        CHECK.fails("event -1", "argument", () -> x.eventsOf(0, -1));
        CHECK.fails("event 6", "argument", () -> x.eventsOf(0, 6));
        CHECK.fails("channel first", "index", () -> x.eventsOf(2, 6));
        x.advance(48);
        for (int k = 0; k < 10; k++) {
            x.replace(1, k);
        }
        CHECK.same("60 at most", x.logSize(), 60);
        CHECK.same("the oldest are gone", x.eventsOf(1, 0) + x.eventsOf(0, 0), 0);
        CHECK.same("the oldest", x.logEntry(0, 0), 2);
        CHECK.same("the latest", x.logEntry(59, 2), 5);
        CHECK.same("its time", x.logEntry(59, 0), 50);
        CHECK.same("replaced", x.eventsOf(1, 5), 10);
        CHECK.same("no more", x.logEntry(60, 0), -1);
    }

    public static void main(String[] args) {
        whatCounts();
        emptyCells();
        sinceWhen();
        losses();
        latestRecords();
        log();
        CHECK.finish();
    }
}
