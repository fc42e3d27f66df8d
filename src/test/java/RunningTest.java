/** Promises 12 to 24: time, states, steps and queues. */
public final class RunningTest {
    private static final Check CHECK = new Check();
    private static final String CELL = "curve a 3000 4000;cell a 1000 100 0 1;";

    private static void time() {
        CellCycler x = Check.loaded(CELL + "program rest 5000;program rest 1 rest 1 rest 1");
        CHECK.fails("advance(0)", "argument", () -> x.advance(0));
        CHECK.fails("advance(5001)", "argument", () -> x.advance(5001));
        for (int k = 1; k <= 59; k++) {
            x.advance(5000);
        }
        CHECK.same("now", x.now(), 295000);
        x.start(0, 1);
        CHECK.same("300000", x.advance(4999), 3);
        CHECK.same("one too many", x.advance(2), -2);
        CHECK.same("nothing changed", x.now(), 299999);
        CHECK.same("the last one", x.advance(1), 0);
        CHECK.same("end", x.now(), 300000);
        CHECK.same("full", x.advance(1), -2);
        CHECK.fails("argument first", "argument", () -> x.advance(0));
        x.start(0, 1);
        CHECK.same("predictions go on", x.doneIn(0), 3);
    }

    private static void states() {
        CellCycler x = Check.loaded(CELL + "cell a 1000 100 0 1;program rest 3 rest 4;program rest 1");
        CHECK.same("start", x.start(1, 0), 1);
        CHECK.same("start another", x.start(0, 1), 2);
        CHECK.same("not twice", x.start(0, 1), -3);
        CHECK.fails("no channel", "index", () -> x.start(2, 0));
        CHECK.fails("no channel -1", "index", () -> x.start(-1, 0));
        CHECK.fails("no program before the state", "index", () -> x.start(0, 2));
        CHECK.fails("no program -1", "index", () -> x.start(0, -1));
        CHECK.same("both channels' steps", x.advance(3), 2);
        CHECK.same("done", x.value(0, 0), 3);
        CHECK.same("no step", x.value(0, 2), -1);
        CHECK.same("no ticks", x.value(0, 3), 0);
        CHECK.same("program stays", x.value(0, 1), 1);
        CHECK.same("pause done", x.pause(0), -3);
        CHECK.same("resume done", x.resume(0), -3);
        CHECK.same("skip done", x.skip(0), -3);
        CHECK.same("pause", x.pause(1), 1);
        CHECK.same("paused", x.value(1, 0), 2);
        CHECK.same("pause paused", x.pause(1), -3);
        CHECK.same("start paused", x.start(1, 0), -3);
        CHECK.same("skip paused", x.skip(1), -3);
        CHECK.same("its step", x.value(1, 2), 1);
        CHECK.same("a tick in pause", x.advance(10), 0);
        CHECK.same("lasts no longer", x.value(1, 3), 0);
        CHECK.same("resume", x.resume(1), 1);
        CHECK.same("resume running", x.resume(1), -3);
        CHECK.same("runs on", x.advance(3), 0);
        CHECK.same("lasted", x.value(1, 3), 3);
        CHECK.same("stop", x.stop(1), 1);
        CHECK.same("stop idle", x.stop(1), 0);
        CHECK.same("stop done", x.stop(0), 3);
        CHECK.same("no step when idle", x.value(1, 2), -1);
        CHECK.same("no ticks when idle", x.value(1, 3), 0);
        CHECK.same("start again, from the beginning", x.start(1, 0), 1);
        CHECK.same("step 0", x.value(1, 2), 0);
        CHECK.same("0 ticks", x.value(1, 3), 0);
        x.pause(1);
        CHECK.same("stop paused", x.stop(1), 2);
        for (int channel : new int[] {-1, 2, Integer.MAX_VALUE, Integer.MIN_VALUE}) {
            CHECK.fails("pause", "index", () -> x.pause(channel));
            CHECK.fails("resume", "index", () -> x.resume(channel));
            CHECK.fails("stop", "index", () -> x.stop(channel));
            CHECK.fails("skip", "index", () -> x.skip(channel));
            CHECK.fails("replace", "index", () -> x.replace(channel, -1));
            CHECK.fails("enqueue", "index", () -> x.enqueue(channel, 0));
            CHECK.fails("dequeue", "index", () -> x.dequeue(channel));
            CHECK.fails("startNext", "index", () -> x.startNext(channel));
            CHECK.fails("queueAt", "index", () -> x.queueAt(channel, 0));
            CHECK.fails("queueSize", "index", () -> x.queueSize(channel));
        }
    }

    private static void trips() {
        CellCycler x = Check.loaded(CELL + "program charge 100 3700;limits 0 3600 600");
        x.start(0, 0);
        // The charge is 599 then, so the voltage is 3599 + 10.
        CHECK.same("no step ends", x.advance(1), 0);
        CHECK.same("tripped", x.value(0, 0), 4);
        CHECK.same("reason", x.value(0, 10), 1);
        CHECK.same("its step", x.value(0, 2), 0);
        CHECK.same("its ticks", x.value(0, 3), 1);
        CHECK.same("start tripped", x.start(0, 0), -3);
        CHECK.same("startNext tripped", x.startNext(0), -3);
        CHECK.same("pause tripped", x.pause(0), -3);
        CHECK.same("resume tripped", x.resume(0), -3);
        CHECK.same("skip tripped", x.skip(0), -3);
        x.advance(1);
        CHECK.same("no current", x.value(0, 4), 0);
        CHECK.same("no longer", x.value(0, 3), 1);
        CHECK.same("stop tripped", x.stop(0), 4);
        CHECK.same("the reason stays", x.value(0, 10), 1);

        CellCycler low = Check.loaded(CELL + "program discharge 100 3300;limits 3400 5000 600");
        low.start(0, 0);
        low.advance(1);
        CHECK.same("too low", low.value(0, 10), 2);
        CellCycler both = Check.loaded(CELL + "program discharge 100 3390;limits 3390 5000 600");
        both.start(0, 0);
        CHECK.same("LOW itself is no trip", both.advance(1), 1);
        CellCycler end = Check.loaded(CELL + "program discharge 100 3390;limits 3391 5000 600");
        end.start(0, 0);
        CHECK.same("a trip comes before the end", end.advance(1), 0);

        CellCycler hot = Check.loaded(CELL + "program rest 9;ambient 251;limits 0 5000 250");
        hot.start(0, 0);
        hot.advance(1);
        CHECK.same("too hot", hot.value(0, 10), 3);
        CellCycler warm = Check.loaded(CELL + "program rest 9;ambient 250;limits 0 5000 250");
        warm.start(0, 0);
        warm.advance(1);
        CHECK.same("HOT itself is no trip", warm.value(0, 0), 1);
    }

    private static void longSteps() {
        // The rest voltage is always 3000, so that the charge step never ends.
        CellCycler x = Check.loaded("curve a 3000 3000;cell a 1000 1 0 1;program charge 1 5000");
        x.start(0, 0);
        for (int k = 0; k < 3; k++) {
            x.advance(5000);
        }
        x.advance(4999);
        CHECK.same("lasted", x.value(0, 3), 19999);
        CHECK.same("running", x.value(0, 0), 1);
        CHECK.same("tripsIn", x.tripsIn(0), 1);
        CHECK.same("at most 2 * CAPACITY", x.value(0, 6), 2000);
        x.advance(1);
        CHECK.same("tripped", x.value(0, 0), 4);
        CHECK.same("for 4", x.value(0, 10), 4);
        CHECK.same("20000", x.value(0, 3), 20000);
    }

    private static void repeatSteps() {
        CellCycler x = Check.loaded(CELL
                + "program rest 1 repeat 0 2 rest 1 repeat 1 1 rest 2;program rest 1");
        x.start(0, 0);
        int[] where = {0, 0, 2, 0, 0, 2, 4};
        int[] first = {1, 2, 0, 1, 2, 0, 0};
        int[] second = {0, 0, 0, 1, 1, 1, 0};
        for (int n = 0; n < 7; n++) {
            CHECK.same("tick " + n, x.advance(1), 1);
            CHECK.same("step behind tick " + n, x.value(0, 2), where[n]);
            CHECK.same("first repeats " + n, x.repeats(0, 1), first[n]);
            CHECK.same("second repeats " + n, x.repeats(0, 3), second[n]);
        }
        CHECK.same("the end", x.advance(2), 1);
        CHECK.same("done", x.value(0, 0), 3);
        x.start(0, 0);
        x.advance(1);
        CHECK.same("once back", x.repeats(0, 1), 1);
        CHECK.same("another step", x.repeats(0, 0), 0);
        CHECK.same("no step", x.repeats(0, 12), 0);
        CHECK.same("no step before", x.repeats(0, -1), 0);
        CHECK.fails("repeats", "index", () -> x.repeats(1, 0));
        x.stop(0);
        CHECK.same("ran last", x.repeats(0, 1), 1);
        x.start(0, 0);
        CHECK.same("a start begins anew", x.repeats(0, 1), 0);
    }

    private static void chainsOfRepeats() {
        StringBuilder chain = new StringBuilder(CELL + "program rest 1");
        StringBuilder twice = new StringBuilder(";program rest 1");
        for (int k = 0; k < 11; k++) {
            chain.append(" repeat ").append(k).append(" 1");
            twice.append(" repeat 0 1");
        }
        CellCycler x = Check.loaded(chain.toString() + twice);
        CHECK.same("each one doubles what comes before it", x.duration(0, 1), 2048);
        CHECK.same("each one goes back to 0 by all before it", x.duration(0, 0), 12);
        x.start(0, 0);
        // Behind tick 11, ten repeats are passed and eleven go back.
        CHECK.same("all but one", x.advance(11), 11);
        for (int k = 0; k < 12; k++) {
            CHECK.same("repeat " + k, x.repeats(0, k), k == 0 ? 0 : 1);
        }
        CHECK.same("the last", x.advance(2), 1);
        CHECK.same("done", x.value(0, 0), 3);
        CHECK.same("repeats are no events", x.eventsOf(0, 1), 12);
        CHECK.same("their numbers are 0 again", x.repeats(0, 11), 0);
    }

    private static void skips() {
        CellCycler x = Check.loaded(CELL + "program rest 5 hold 3500 5000 discharge 100 3450 rest 2"
                + " repeat 3 1;program rest 1");
        x.start(0, 0);
        x.advance(1);
        CHECK.same("skip the rest", x.skip(0), 1);
        CHECK.same("nothing measured", x.measuredRest(0), -1);
        CHECK.same("from its beginning", x.value(0, 3), 0);
        CHECK.same("skip the hold", x.skip(0), 2);
        CHECK.same("discharge", x.advance(1), 1);
        CHECK.same("a record", x.recordCount(), 1);
        CHECK.same("that does not count", x.record(0, 4), 0);
        CHECK.same("the step that comes behind the repeat", x.skip(0), 3);
        CHECK.same("gone back", x.repeats(0, 4), 1);
        CHECK.same("skip the last", x.skip(0), -1);
        CHECK.same("done", x.value(0, 0), 3);
        CHECK.same("ends in the log", x.eventsOf(0, 1), 5);
        CHECK.same("all ended in the log", x.eventsOf(0, 2), 1);
        x.start(0, 0);
        x.skip(0);
        x.skip(0);
        x.skip(0);
        CHECK.same("no record of a skipped discharge", x.recordCount(), 1);
        x.skip(0);
        x.enqueue(0, 1);
        CHECK.same("the queue's program", x.skip(0), 0);
        CHECK.same("is running", x.value(0, 1), 1);
        CHECK.same("state", x.value(0, 0), 1);
    }

    private static void replaceCell() {
        CellCycler x = Check.loaded("curve a 3000 4000;cell a 1000 100 500 5;fade 100;heat 1 0;"
                + "limits 0 5000 1000;warn 0 3000 1000;"
                + "program rest 1 repeat 0 1 charge 100 3600 rest 1 hold 3000 9 discharge 100 3500;"
                + "program charge 100 5000");
        x.start(0, 0);
        CHECK.same("running", x.replace(0, 0), -3);
        CHECK.fails("charge -1 before the state", "argument", () -> x.replace(0, -1));
        CHECK.fails("charge 1001", "argument", () -> x.replace(0, 1001));
        x.advance(500);
        CHECK.same("done", x.value(0, 0), 3);
        CHECK.same("a record that counts", x.counting(0), 1);
        x.start(0, 1);
        x.pause(0);
        CHECK.same("paused", x.replace(0, 0), -3);
        x.stop(0);
        x.enqueue(0, 1);
        x.setAmbient(123);
        int old = x.value(0, 6);
        CHECK.same("the previous charge", x.replace(0, 1000), old);
        int[] values = {0, -1, -1, 0, 0, 0, 1000, 1000, 0, 123, 0};
        for (int k = 0; k < values.length; k++) {
            CHECK.same("value " + k, x.value(0, k), values[k]);
        }
        for (int k = 0; k < 5; k++) {
            CHECK.same("ledger " + k, x.ledger(0, k), 0L);
        }
        for (int k = 0; k < 10; k++) {
            CHECK.same("band " + k, x.ticksIn(0, k), 0);
        }
        CHECK.same("rest", x.measuredRest(0), -1);
        CHECK.same("capacity", x.capacityByRule(0), -1);
        CHECK.same("resistance", x.internalResistance(0), -1);
        CHECK.same("warnings", x.warnings(0), 0);
        CHECK.same("warned", x.warned(0), 0);
        CHECK.same("queue", x.queueSize(0), 0);
        CHECK.same("the records stay", x.counting(0), 1);
        CHECK.same("the log tells", x.logEntry(x.logSize() - 1, 2), 5);
        CHECK.same("with 0", x.logEntry(x.logSize() - 1, 3), 0);
        x.advance(1);
        CHECK.same("no heat is left", x.value(0, 9), 123);
        CHECK.same("voltage", x.value(0, 5), 4000);
    }

    private static void queues() {
        CellCycler x = Check.loaded(CELL + "program rest 2;program rest 3;program rest 1");
        CHECK.same("startNext of none", x.startNext(0), -1);
        CHECK.same("dequeue of none", x.dequeue(0), -1);
        CHECK.same("first", x.enqueue(0, 1), 1);
        CHECK.same("second", x.enqueue(0, 0), 2);
        CHECK.same("third", x.enqueue(0, 2), 3);
        CHECK.same("fourth", x.enqueue(0, 1), 4);
        CHECK.same("full", x.enqueue(0, 1), -2);
        CHECK.fails("program before full", "index", () -> x.enqueue(0, 3));
        CHECK.fails("program -1", "index", () -> x.enqueue(0, -1));
        CHECK.same("size", x.queueSize(0), 4);
        int[] programs = {1, 0, 2, 1};
        for (int k = 0; k < 4; k++) {
            CHECK.same("queueAt " + k, x.queueAt(0, k), programs[k]);
        }
        CHECK.same("queueAt 4", x.queueAt(0, 4), -1);
        CHECK.same("queueAt -1", x.queueAt(0, -1), -1);
        CHECK.same("dequeue the last", x.dequeue(0), 1);
        CHECK.same("queueAt 3", x.queueAt(0, 3), -1);
        CHECK.same("startNext", x.startNext(0), 1);
        CHECK.same("size", x.queueSize(0), 2);
        CHECK.same("moved up", x.queueAt(0, 0), 0);
        CHECK.same("running", x.startNext(0), -3);
        CHECK.same("doneIn", x.doneIn(0), 6);
        CHECK.same("to the end of the first", x.advance(3), 1);
        CHECK.same("the next one runs at once", x.value(0, 1), 0);
        CHECK.same("size", x.queueSize(0), 1);
        CHECK.same("to the end of all", x.advance(3), 2);
        CHECK.same("done", x.value(0, 0), 3);
        CHECK.same("starts", x.eventsOf(0, 0), 3);
        CHECK.same("ends of all steps", x.eventsOf(0, 2), 3);
        int[] events = {0, 1, 2, 0, 1, 2, 0, 1, 2};
        int[] numbers = {1, 0, 0, 0, 0, 0, 2, 0, 0};
        for (int k = 0; k < 9; k++) {
            CHECK.same("event " + k, x.logEntry(k, 2), events[k]);
            CHECK.same("number " + k, x.logEntry(k, 3), numbers[k]);
        }
        x.enqueue(0, 2);
        CHECK.same("a done channel does not go on by itself", x.advance(1), 0);
        CHECK.same("startNext when done", x.startNext(0), 2);
        x.enqueue(0, 1);
        x.stop(0);
        CHECK.same("stop keeps the queue", x.queueSize(0), 1);
    }

    public static void main(String[] args) {
        time();
        states();
        trips();
        longSteps();
        repeatSteps();
        chainsOfRepeats();
        skips();
        replaceCell();
        queues();
        CHECK.finish();
    }
}
