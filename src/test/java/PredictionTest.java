/** Promises 50 to 59: predictions, which change nothing. */
public final class PredictionTest {
    private static final Check CHECK = new Check();
    private static final String CELL = "curve a 3000 4000;efficiency 1000;cell a 1000 100 0 1;";

    private static void endOfAStep() {
        CellCycler x = Check.loaded(CELL + "program charge 100 3800 rest 7;program rest 5000 repeat 0 5;"
                + "program charge 100 5000;limits 0 4050 600");
        CHECK.same("idle", x.stepEndsIn(0), -1);
        x.start(0, 0);
        CHECK.same("at 800", x.stepEndsIn(0), 3);
        x.advance(2);
        CHECK.same("one more", x.stepEndsIn(0), 1);
        x.advance(1);
        CHECK.same("rest", x.stepEndsIn(0), 7);
        x.pause(0);
        CHECK.same("paused", x.stepEndsIn(0), -1);
        x.resume(0);
        CHECK.same("nothing has changed", x.stepEndsIn(0), 7);
        x.advance(7);
        CHECK.same("done", x.stepEndsIn(0), -1);
        x.start(0, 2);
        CHECK.same("trips before", x.stepEndsIn(0), -1);
        CHECK.same("when", x.tripsIn(0), 3);
        CHECK.fails("channel -1", "index", () -> x.stepEndsIn(-1));
        CHECK.fails("channel 1", "index", () -> x.stepEndsIn(1));
        CellCycler slow = Check.loaded("curve a 0 5000;efficiency 1000;cell a 100000 1 0 1;"
                + "program charge 1 3500;program charge 1 3501");
        slow.start(0, 0);
        CHECK.same("20000", slow.stepEndsIn(0), 20000);
        CHECK.same("does not trip", slow.tripsIn(0), -1);
        slow.stop(0);
        slow.start(0, 1);
        CHECK.same("later", slow.stepEndsIn(0), -1);
        CHECK.same("trips", slow.tripsIn(0), 20000);
    }

    private static void endOfAll() {
        CellCycler x = Check.loaded(CELL + "program rest 5000 repeat 0 5;program rest 1;"
                + "program rest 4999 rest 5000 repeat 1 4 charge 500 5000;"
                + "program rest 5000 repeat 0 5 charge 500 5000;limits 0 3600 600");
        CHECK.same("idle", x.doneIn(0), -1);
        x.start(0, 0);
        CHECK.same("30000", x.doneIn(0), 30000);
        CHECK.same("does not trip", x.tripsIn(0), -1);
        x.enqueue(0, 1);
        CHECK.same("with the queue it is later", x.doneIn(0), -1);
        x.advance(1);
        CHECK.same("now it is not", x.doneIn(0), 30000);
        x.pause(0);
        CHECK.same("paused", x.doneIn(0), -1);
        CHECK.same("paused does not trip", x.tripsIn(0), -1);
        x.stop(0);
        x.startNext(0);
        x.advance(1);
        CHECK.same("done", x.doneIn(0), 0);
        x.enqueue(0, 1);
        CHECK.same("done, whatever waits", x.doneIn(0), 0);
        x.start(0, 2);
        CHECK.same("trips in 30000", x.tripsIn(0), 30000);
        CHECK.same("is not done", x.doneIn(0), -1);
        x.stop(0);
        x.start(0, 3);
        CHECK.same("trips later", x.tripsIn(0), -1);
        x.advance(1);
        CHECK.same("trips in 30000 then", x.tripsIn(0), 30000);
        x.setLimits(0, 0);
        x.advance(1);
        CHECK.same("tripped", x.tripsIn(0), -1);
        CHECK.same("tripped is not done", x.doneIn(0), -1);
        CHECK.fails("doneIn", "index", () -> x.doneIn(1));
        CHECK.fails("tripsIn", "index", () -> x.tripsIn(1));
    }

    private static void laterValues() {
        CellCycler x = Check.loaded(CELL + "program charge 100 3800 hold 3800 20 rest 5;program rest 3");
        x.start(0, 0);
        x.enqueue(0, 1);
        int[] ticks = {0, 1, 3, 4, 9, 11, 12, 10000};
        for (int n : ticks) {
            CellCycler y = Check.loaded(CELL
                    + "program charge 100 3800 hold 3800 20 rest 5;program rest 3");
            y.start(0, 0);
            y.enqueue(0, 1);
            for (int left = n; left > 0; left -= 5000) {
                y.advance(Math.min(left, 5000));
            }
            for (int what = 0; what <= 10; what++) {
                CHECK.same("value " + what + " after " + n, x.valueAfter(0, what, n), y.value(0, what));
            }
        }
        CHECK.same("a voltage", x.valueAfter(0, 5, 2), 3710);
        CHECK.same("the program of the queue", x.valueAfter(0, 1, 9), 1);
        CHECK.same("nothing has changed", x.now() + x.value(0, 3) + x.recordCount(), 0);
        CHECK.same("only the start in the log", x.logSize(), 1);
        CHECK.fails("what 11", "argument", () -> x.valueAfter(0, 11, 0));
        CHECK.fails("what -1", "argument", () -> x.valueAfter(0, -1, 0));
        CHECK.fails("ticks -1", "argument", () -> x.valueAfter(0, 0, -1));
        CHECK.fails("ticks 10001", "argument", () -> x.valueAfter(0, 0, 10001));
        CHECK.fails("channel first", "index", () -> x.valueAfter(1, 11, -1));
    }

    private static void peaks() {
        CellCycler x = Check.loaded("curve a 3000 3000;cell a 100000 100 0 1;program charge 1000 5000;"
                + "program charge 1000 3000 rest 5000");
        CHECK.same("idle", x.peakTemperature(0, 10000), 250);
        x.start(0, 0);
        CHECK.same("now", x.peakTemperature(0, 0), 250);
        CHECK.same("after 1", x.peakTemperature(0, 1), 251);
        CHECK.same("after 4", x.peakTemperature(0, 4), 253);
        x.stop(0);
        x.start(0, 1);
        CHECK.same("between", x.peakTemperature(0, 1000), 251);
        x.stop(0);
        x.setAmbient(0);
        CHECK.same("from now on", x.peakTemperature(0, 1000), 250);
        CHECK.fails("ticks -1", "argument", () -> x.peakTemperature(0, -1));
        CHECK.fails("ticks 10001", "argument", () -> x.peakTemperature(0, 10001));
        CHECK.fails("channel first", "index", () -> x.peakTemperature(1, -1));
    }

    private static void settling() {
        CellCycler x = Check.loaded("curve a 3000 3000;cell a 100000 100 200 2;program charge 500 5000");
        CHECK.same("is 0", x.settledIn(0), 0);
        x.start(0, 0);
        CHECK.same("running, though it is 0", x.settledIn(0), -1);
        x.advance(8);
        CHECK.same("running", x.settledIn(0), -1);
        x.pause(0);
        CHECK.same("paused", x.settledIn(0), 8);
        x.advance(3);
        CHECK.same("three less", x.settledIn(0), 5);
        x.advance(5);
        CHECK.same("settled", x.settledIn(0), 0);
        CHECK.fails("settledIn", "index", () -> x.settledIn(1));
    }

    private static void durations() {
        CellCycler x = Check.loaded(CELL + "program rest 5000 repeat 0 5;program charge 100 3800;"
                + "program rest 3;program discharge 100 3290;limits 0 4000 600");
        CHECK.same("30000", x.duration(0, 0), 30000);
        CHECK.same("charging", x.duration(0, 1), 3);
        CHECK.same("discharging", x.duration(0, 3), 2);
        CHECK.same("the shortest", x.shortest(0), 3);
        x.start(0, 0);
        x.enqueue(0, 0);
        x.advance(10);
        CHECK.same("in place of what it does", x.duration(0, 2), 3);
        CHECK.same("from its beginning", x.duration(0, 0), 30000);
        x.stop(0);
        x.replace(0, 600);
        CHECK.same("from 600", x.duration(0, 1), 2);
        CHECK.same("from 600 down", x.duration(0, 3), 3);
        CHECK.same("the shortest now", x.shortest(0), 1);
        x.replace(0, 500);
        x.setLimits(0, 3700);
        CHECK.same("trips", x.duration(0, 1), -1);
        x.replace(0, 600);
        CHECK.same("the smallest of two", x.shortest(0), 2);
        x.start(0, 2);
        x.setLimits(0, 0);
        x.advance(1);
        CHECK.same("none gets done", x.shortest(0), -1);
        x.setLimits(0, 5000);
        CHECK.same("even of a tripped one", x.duration(0, 2), 3);
        CHECK.same("still tripped", x.value(0, 0), 4);
        CHECK.fails("no channel", "index", () -> x.duration(1, 0));
        CHECK.fails("no program", "index", () -> x.duration(0, 4));
        CHECK.fails("program -1", "index", () -> x.duration(0, -1));
        CHECK.fails("shortest", "index", () -> x.shortest(-1));
        CellCycler longer = Check.loaded(CELL + "program rest 5000 repeat 0 5 rest 1");
        CHECK.same("30001", longer.duration(0, 0), -1);
        CHECK.same("nothing gets done", longer.shortest(0), -1);
        CellCycler none = Check.loaded(CELL + "ambient 1");
        CHECK.same("no program at all", none.shortest(0), -1);
    }

    private static void capacities() {
        CellCycler x = Check.loaded(CELL + "program hold 3500 5000 discharge 100 3400;program rest 1;"
                + "program hold 3500 5000 discharge 100 0;program rest 5000 repeat 0 6");
        CHECK.same("none", x.capacityIf(0, 1), -1);
        CHECK.same("100", x.capacityIf(0, 0), 100);
        CHECK.same("emptied: does not count", x.capacityIf(0, 2), -1);
        x.enqueue(0, 0);
        CHECK.same("its queue left out", x.capacityIf(0, 1), -1);
        CHECK.same("no record was made", x.recordCount(), 0);
        x.start(0, 0);
        x.advance(2);
        CHECK.same("what it has then", x.capacityIf(0, 1), 100);
        CHECK.same("not done in time", x.capacityIf(0, 3), -1);
        x.setLimits(3300, 5000);
        CHECK.same("trips", x.capacityIf(0, 2), -1);
        CHECK.fails("no channel", "index", () -> x.capacityIf(1, 0));
        CHECK.fails("no program", "index", () -> x.capacityIf(0, 4));
    }

    private static void safeCurrents() {
        CellCycler x = Check.loaded(CELL + "program discharge 100 0;limits 3500 4000 600");
        CHECK.same("one tick", x.safeCurrent(0, 1), 400);
        CHECK.same("two ticks", x.safeCurrent(0, 2), 200);
        x.setLimits(4000, 4000);
        CHECK.same("LOW is no matter", x.safeCurrent(0, 1), 400);
        x.setLimits(0, 3610);
        CHECK.same("just 100", x.safeCurrent(0, 1), 100);
        x.setLimits(0, 3609);
        CHECK.same("not even 100", x.safeCurrent(0, 1), -1);
        x.setLimits(0, 4000);
        x.start(0, 0);
        x.advance(1);
        CHECK.same("in place of what it does", x.safeCurrent(0, 1), 500);
        CHECK.same("nothing has changed", x.value(0, 6), 400);
        CHECK.fails("ticks 0", "argument", () -> x.safeCurrent(0, 0));
        CHECK.fails("ticks 1001", "argument", () -> x.safeCurrent(0, 1001));
        CHECK.fails("channel first", "index", () -> x.safeCurrent(1, 0));
        CellCycler hot = Check.loaded("curve a 3000 3000;cell a 100000 100 0 1;heat 1 0;"
                + "limits 0 5000 300");
        CHECK.same("the temperature", hot.safeCurrent(0, 1), 700);
        CHECK.same("for 1000 ticks", hot.safeCurrent(0, 1000), -1);
        CHECK.same("for 50 ticks", hot.safeCurrent(0, 50), 100);
        hot.setDerate(100);
        CHECK.same("cut to half at first", hot.safeCurrent(0, 1), 1400);
        CellCycler all = Check.loaded("curve a 3000 3000;cell a 100000 1 0 1");
        CHECK.same("5000", all.safeCurrent(0, 1), 5000);
    }

    public static void main(String[] args) {
        endOfAStep();
        endOfAll();
        laterValues();
        peaks();
        settling();
        durations();
        capacities();
        safeCurrents();
        CHECK.finish();
    }
}
