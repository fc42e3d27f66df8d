/**
 * Promises 12 to 24 and the parts of section 3 and 6 that they rest on: the ends of the time, every
 * call in every state, empty and full queues, and steps at the very tick at which they end.
 */
public final class RunningEdgesTest {
    private static final Check CHECK = new Check();
    private static final String CELL = "curve a 3000 4000;efficiency 1000;cell a 1000 100 0 1;";
    private static final int IDLE = 0;
    private static final int RUNNING = 1;
    private static final int PAUSED = 2;
    private static final int DONE = 3;
    private static final int TRIPPED = 4;

    // ---- time

    private static CellCycler at(int time) {
        CellCycler x = Check.loaded(CELL + "program rest 1");
        while (time - x.now() > 5000) {
            x.advance(5000);
        }
        if (time > x.now()) {
            x.advance(time - x.now());
        }
        return x;
    }

    private static void endOfTime() {
        int[] times = {295000, 295001, 299999, 300000};
        for (int time : times) {
            int left = 300000 - time;
            CellCycler x = at(time);
            CHECK.same("now", x.now(), time);
            x.start(0, 0);
            if (left < 5000) {
                CHECK.same("300001 from " + time, x.advance(left + 1), -2);
                CHECK.same("is refused", x.now(), time);
                CHECK.same("as a whole", x.value(0, 0), RUNNING);
            }
            if (left > 0) {
                CHECK.same("300000 from " + time, x.advance(left), 1);
                CHECK.same("is the last time", x.now(), 300000);
            }
            CHECK.same("no more", x.advance(1), -2);
            CHECK.same("5000 no more", x.advance(5000), -2);
        }
        CellCycler x = at(299998);
        x.saveSnapshot(0);
        CHECK.same("both", x.advance(2), 0);
        CHECK.same("full", x.advance(1), -2);
        x.restoreSnapshot(0);
        CHECK.same("both again", x.advance(2), 0);
        Check.load(x, CELL + "program rest 1");
        CHECK.same("load begins at 0", x.now(), 0);
        CHECK.same("anew", x.advance(5000), 0);
        CHECK.same("time 5000", x.now(), 5000);
    }

    private static void ticksOfOneCall() {
        CellCycler x = Check.loaded(CELL + "cell a 1000 100 0 1;program rest 1 rest 1 rest 1;program rest 3 rest 1");
        CHECK.same("without a running one", x.advance(1), 0);
        x.start(0, 0);
        x.start(1, 1);
        CHECK.same("one of one", x.advance(1), 1);
        CHECK.same("of both", x.advance(2), 3);
        CHECK.same("the last", x.advance(5000), 1);
        CHECK.same("none", x.advance(5000), 0);
        CHECK.same("all the time", x.now(), 10004);
    }

    // ---- every call in every state

    private static CellCycler in(int state) {
        CellCycler x = Check.loaded(CELL + "cell a 1000 100 0 1;limits 3400 5000 600;program rest 2 rest 3;"
                + "program rest 1;program discharge 200 3000");
        switch (state) {
            case RUNNING:
                x.start(0, 0);
                x.advance(3);
                break;
            case PAUSED:
                x.start(0, 0);
                x.advance(3);
                x.pause(0);
                break;
            case DONE:
                x.start(0, 1);
                x.advance(1);
                break;
            case TRIPPED:
                x.start(0, 2);
                x.advance(1);
                break;
            default:
                break;
        }
        CHECK.same("state", x.value(0, 0), state);
        return x;
    }

    private static void startInStates() {
        for (int state = 0; state < 5; state++) {
            boolean free = state == IDLE || state == DONE;
            CellCycler x = in(state);
            CHECK.same("start in " + state, x.start(0, 1), free ? 1 : -3);
            CHECK.same("state then", x.value(0, 0), free ? RUNNING : state);
            CellCycler y = in(state);
            y.enqueue(0, 0);
            y.enqueue(0, 1);
            CHECK.same("startNext in " + state, y.startNext(0), free ? 0 : -3);
            CHECK.same("state then", y.value(0, 0), free ? RUNNING : state);
            CHECK.same("queue then", y.queueSize(0), free ? 1 : 2);
            CHECK.same("startNext of none in " + state, in(state).startNext(0), free ? -1 : -3);
        }
    }

    private static void pauseInStates() {
        for (int state = 0; state < 5; state++) {
            CellCycler x = in(state);
            CHECK.same("pause in " + state, x.pause(0), state == RUNNING ? 1 : -3);
            CHECK.same("state then", x.value(0, 0), state == RUNNING ? PAUSED : state);
            CellCycler y = in(state);
            CHECK.same("resume in " + state, y.resume(0), state == PAUSED ? 1 : -3);
            CHECK.same("state then", y.value(0, 0), state == PAUSED ? RUNNING : state);
            if (state == PAUSED) {
                CHECK.same("the step is not begun anew", y.value(0, 3), 1);
                CHECK.same("it ends when it would have", y.advance(2), 1);
            }
        }
    }

    private static void skipInStates() {
        for (int state = 0; state < 5; state++) {
            CellCycler x = in(state);
            CHECK.same("skip in " + state, x.skip(0), state == RUNNING ? -1 : -3);
            CHECK.same("state then", x.value(0, 0), state == RUNNING ? DONE : state);
        }
    }

    private static void stopInStates() {
        for (int state = 0; state < 5; state++) {
            CellCycler x = in(state);
            CHECK.same("stop in " + state, x.stop(0), state);
            CHECK.same("idle then", x.value(0, 0), IDLE);
            CHECK.same("without a step", x.value(0, 2), -1);
            CHECK.same("that lasted", x.value(0, 3), 0);
            CHECK.same("with its program", x.value(0, 1), new int[] {-1, 0, 0, 1, 2}[state]);
            CHECK.same("and may be started", x.start(0, 1), 1);
        }
    }

    private static void replaceInStates() {
        for (int state = 0; state < 5; state++) {
            boolean refused = state == RUNNING || state == PAUSED;
            for (int charge : new int[] {0, 1, 999, 1000}) {
                CellCycler x = in(state);
                int before = x.value(0, 6);
                CHECK.same("replace in " + state, x.replace(0, charge), refused ? -3 : before);
                CHECK.same("state then", x.value(0, 0), refused ? state : IDLE);
                CHECK.same("charge then", x.value(0, 6), refused ? before : charge);
                CHECK.same("events", x.eventsOf(0, 5), refused ? 0 : 1);
            }
            CellCycler x = in(state);
            CHECK.fails("charge 1001 in " + state, "argument", () -> x.replace(0, 1001));
            CHECK.fails("charge -1 in " + state, "argument", () -> x.replace(0, -1));
        }
        CellCycler worn = Check.loaded("curve a 3000 3000;cell a 1000 1 0 1;fade 100;program charge 5000 0");
        worn.start(0, 0);
        worn.advance(1);
        CHECK.same("its capacity has become less", worn.value(0, 7), 950);
        CHECK.same("the charge may be CAPACITY all the same", worn.replace(0, 1000), 2000);
        CHECK.same("as its capacity is again", worn.value(0, 7), 1000);
    }

    /** "all of the channel is as behind load()", whatever it has been through. */
    private static void replacedIsAsLoaded() {
        String text = "curve a 3000 4000;efficiency 999;fade 300;heat 90 5;warn 3300 3600 260;derate 20;"
                + "cell a 1000 300 200 7;program charge 100 3900 hold 3900 20 rest 3 discharge 151 3100 repeat 0 2;"
                + "program rest 1 repeat 0 50;program charge 1 5000";
        CellCycler x = Check.loaded(text);
        x.start(0, 0);
        x.advance(31);
        x.enqueue(0, 1);
        x.enqueue(0, 0);
        x.setLimits(0, 3000);
        x.advance(1);
        CHECK.same("tripped", x.value(0, 0) * 10 + x.value(0, 10), 41);
        CHECK.same("with a repeat", x.repeats(0, 4) > 0, true);
        CHECK.same("with warnings", x.warnings(0) > 1, true);
        CHECK.same("with records that count", x.counting(0) > 0, true);
        CHECK.same("worn", x.value(0, 7) < 1000, true);
        CHECK.same("measured", x.measuredRest(0) > 0 && x.internalResistance(0) != -1, true);
        x.setLimits(0, 5000);
        int records = x.recordCount();
        int entries = x.logSize();
        CellCycler fresh = Check.loaded(text);
        fresh.replace(0, 777);
        x.replace(0, 777);
        CHECK.same("the records stay", x.recordCount(), records);
        CHECK.same("and the log, with one more", x.logSize(), entries + 1);
        CHECK.same("as behind load", Everything.ofChannel(x, 0), Everything.ofChannel(fresh, 0));
        x.advance(1);
        fresh.advance(1);
        CHECK.same("a tick later", Everything.ofChannel(x, 0), Everything.ofChannel(fresh, 0));
        for (int program : new int[] {2, 0, 1}) {
            x.start(0, program);
            fresh.start(0, program);
            for (int n = 0; n < 3; n++) {
                x.advance(11);
                fresh.advance(11);
                CHECK.same("running", Everything.ofChannel(x, 0), Everything.ofChannel(fresh, 0));
            }
            x.stop(0);
            fresh.stop(0);
        }
    }

    private static void statesOfOthers() {
        for (int state = 0; state < 5; state++) {
            CellCycler x = in(state);
            CHECK.same("the other one starts", x.start(1, 0), state == RUNNING ? 2 : 1);
            CHECK.same("and pauses", x.pause(1), 0);
            CHECK.same("resumes", x.resume(1), 0);
            CHECK.same("skips", x.skip(1), 1);
            CHECK.same("stops", x.stop(1), RUNNING);
            CHECK.same("gets a cell", x.replace(1, 7), 500);
            CHECK.same("and the first one is as it was", x.value(0, 0), state);
        }
    }

    private static void sixAtOnce() {
        StringBuilder text = new StringBuilder("curve a 3000 4000;program rest 2");
        for (int n = 0; n < 6; n++) {
            text.append(";cell a 1000 100 0 1");
        }
        CellCycler x = Check.loaded(text.toString());
        for (int n = 0; n < 6; n++) {
            CHECK.same("running channels", x.start(5 - n, 0), n + 1);
        }
        CHECK.same("the sum of all", x.inState(RUNNING), 63);
        CHECK.same("no step ends", x.advance(1), 0);
        CHECK.same("six steps end", x.advance(1), 6);
        CHECK.same("in their order", x.logEntry(6, 1) * 100 + x.logEntry(8, 1) * 10 + x.logEntry(16, 1), 15);
        CHECK.same("none", x.inState(RUNNING), 0);
        CHECK.same("all done", x.inState(DONE), 63);
    }

    // ---- queues

    private static void queueOfFour() {
        CellCycler x = Check.loaded(CELL + "cell a 1000 100 0 1;program rest 1;program rest 2;"
                + "program rest 3;program rest 4");
        CHECK.same("empty", x.queueSize(0), 0);
        CHECK.same("nothing at 0", x.queueAt(0, 0), -1);
        CHECK.same("nothing to take", x.dequeue(0), -1);
        for (int n = 1; n <= 4; n++) {
            CHECK.same("so many", x.enqueue(0, 4 - n), n);
            CHECK.same("so many are there", x.queueSize(0), n);
            CHECK.same("the last", x.queueAt(0, n - 1), 4 - n);
            CHECK.same("none behind it", x.queueAt(0, n), -1);
            CHECK.same("none before the first", x.queueAt(0, -1), -1);
            CHECK.same("none far away", x.queueAt(0, Integer.MIN_VALUE) + x.queueAt(0, Integer.MAX_VALUE), -2);
        }
        for (int program = 0; program < 4; program++) {
            CHECK.same("a fifth", x.enqueue(0, program), -2);
        }
        CHECK.same("four", x.queueSize(0), 4);
        CHECK.same("the other's is empty", x.queueSize(1), 0);
        CHECK.same("the last one goes", x.dequeue(0), 0);
        CHECK.same("another comes", x.enqueue(0, 3), 4);
        CHECK.same("FULL again", x.enqueue(0, 3), -2);
        CHECK.same("the first one goes", x.startNext(0), 3);
        CHECK.same("another comes", x.enqueue(0, 0), 4);
        int[] programs = {2, 1, 3, 0};
        for (int n = 0; n < 4; n++) {
            CHECK.same("in their order", x.queueAt(0, n), programs[n]);
        }
        for (int n = 3; n >= 0; n--) {
            CHECK.same("from the end", x.dequeue(0), programs[n]);
            CHECK.same("so many are left", x.queueSize(0), n);
        }
        CHECK.same("no more", x.dequeue(0), -1);
        CHECK.same("no less than 0", x.queueSize(0), 0);
    }

    private static void queueInStates() {
        for (int state = 0; state < 5; state++) {
            CellCycler x = in(state);
            CHECK.same("enqueue in " + state, x.enqueue(0, 1), 1);
            CHECK.same("and again", x.enqueue(0, 2), 2);
            CHECK.same("which starts nothing", x.value(0, 0), state);
            CHECK.same("dequeue", x.dequeue(0), 2);
            x.stop(0);
            CHECK.same("stop leaves it", x.queueAt(0, 0), 1);
            CHECK.same("start leaves it", x.start(0, 0) + 10 * x.queueSize(0), 11);
        }
    }

    private static void queueRunsEmpty() {
        CellCycler x = Check.loaded(CELL + "program rest 1;program rest 2;limits 0 3600 600;program charge 200 5000");
        x.enqueue(0, 0);
        x.enqueue(0, 1);
        x.enqueue(0, 0);
        CHECK.same("an idle one does not start", x.advance(5), 0);
        x.start(0, 1);
        CHECK.same("the step ends", x.advance(2), 1);
        CHECK.same("the first one starts at once", x.value(0, 1) + 10 * x.value(0, 0), 10);
        CHECK.same("its step 0 comes", x.value(0, 2) + x.value(0, 3), 0);
        CHECK.same("at that time", x.logEntry(3, 0), 7);
        CHECK.same("takes its tick", x.advance(1), 1);
        CHECK.same("the second one", x.value(0, 1), 1);
        CHECK.same("two more", x.advance(2), 1);
        CHECK.same("the third one", x.value(0, 1), 0);
        CHECK.same("none waits", x.queueSize(0), 0);
        CHECK.same("it still runs", x.value(0, 0), RUNNING);
        CHECK.same("its end", x.advance(1), 1);
        CHECK.same("done", x.value(0, 0), DONE);
        x.enqueue(0, 2);
        x.enqueue(0, 0);
        CHECK.same("startNext of a done one", x.startNext(0), 2);
        x.advance(1);
        CHECK.same("trips", x.value(0, 0), TRIPPED);
        CHECK.same("and the queue waits", x.queueSize(0), 1);
        CHECK.same("no matter how long", x.advance(5), 0);
        CHECK.same("still there", x.queueAt(0, 0), 0);
    }

    // ---- skip

    private static void skipOver() {
        CellCycler x = Check.loaded(CELL + "program rest 5 repeat 0 1 rest 6 repeat 2 1;program rest 7 rest 8");
        x.start(0, 0);
        x.advance(2);
        CHECK.same("the step that comes is the same", x.skip(0), 0);
        CHECK.same("from its beginning", x.value(0, 3), 0);
        CHECK.same("a repeat has gone back", x.repeats(0, 1), 1);
        CHECK.same("past the repeat", x.skip(0), 2);
        CHECK.same("which is 0 again", x.repeats(0, 1), 0);
        CHECK.same("back", x.skip(0), 2);
        CHECK.same("the last", x.skip(0), -1);
        CHECK.same("is done", x.value(0, 0), DONE);
        CHECK.same("time has not passed", x.now(), 2);
        CHECK.same("events: four ends", x.eventsOf(0, 1), 4);
        CHECK.same("and one of all", x.eventsOf(0, 2), 1);
        x.start(0, 0);
        x.enqueue(0, 1);
        for (int n = 0; n < 3; n++) {
            x.skip(0);
        }
        CHECK.same("the queue's program starts", x.skip(0), 0);
        CHECK.same("and runs", x.value(0, 0) * 10 + x.value(0, 1), 11);
        CHECK.same("it has left the queue", x.queueSize(0), 0);
        CHECK.same("its step 1", x.skip(0), 1);
        CHECK.same("done", x.skip(0), -1);
    }

    private static void skipMakesNothing() {
        CellCycler x = Check.loaded(CELL + "program hold 3500 5000 discharge 100 3400 rest 1;"
                + "program hold 3400 1 discharge 100 3290");
        x.start(0, 0);
        x.advance(1);
        x.skip(0);
        CHECK.same("no record", x.recordCount(), 0);
        x.skip(0);
        CHECK.same("no voltage measured", x.measuredRest(0), -1);
        x.start(0, 1);
        x.skip(0);
        x.advance(3);
        CHECK.same("a record", x.recordCount(), 1);
        CHECK.same("the skipped hold did not count", x.record(0, 4), 0);
        x.replace(0, 500);
        x.start(0, 1);
        x.advance(1);
        x.advance(3);
        CHECK.same("one that ends by itself does", x.record(1, 4), 1);
    }

    // ---- the tick at which a step ends

    /** Runs program 0 of a cell of 1000 at 500, whose voltage then is charge + 3000 + current / 10. */
    private static CellCycler run(String program, int ticks) {
        CellCycler x = Check.loaded(CELL + "program " + program + " rest 9");
        x.start(0, 0);
        for (int n = 1; n < ticks; n++) {
            CHECK.same(program + " does not end in tick " + n, x.advance(1), 0);
            CHECK.same("lasted", x.value(0, 3), n);
        }
        CHECK.same(program + " ends in tick " + ticks, x.advance(1), 1);
        CHECK.same("the step behind it", x.value(0, 2), 1);
        CHECK.same("comes from its beginning", x.value(0, 3), 0);
        return x;
    }

    private static void endsOfSteps() {
        // Charging with 100, the voltages are 3610, 3710, 3810.
        run("charge 100 3710", 2);
        run("charge 100 3709", 2);
        run("charge 100 3711", 3);
        run("charge 100 3610", 1);
        run("charge 100 0", 1);
        // Discharging with 100, they are 3390, 3290, 3190.
        run("discharge 100 3290", 2);
        run("discharge 100 3291", 2);
        run("discharge 100 3289", 3);
        run("discharge 100 5000", 1);
        // Holding 3520, the currents are 200, then 0, as the charge is 700; with R 100 and 10 a mV.
        run("hold 3520 200", 1);
        run("hold 3520 199", 2);
        run("hold 3520 201", 1);
        run("rest 1", 1);
        run("rest 2", 2);
        run("rest 4", 4);
        // The charges are 300, 100, 0: then it ends, whatever its voltage.
        run("discharge 200 0", 3);
        CellCycler one = run("discharge 499 0", 2);
        CHECK.same("1 was left", one.value(0, 4), -1);
        CellCycler zero = run("discharge 500 0", 1);
        CHECK.same("none is left", zero.value(0, 6), 0);
        CellCycler empty = Check.loaded(CELL + "program discharge 100 0");
        empty.replace(0, 0);
        empty.start(0, 0);
        CHECK.same("an empty one ends at once", empty.advance(1), 1);
        CHECK.same("without a current", empty.value(0, 4), 0);
        CHECK.same("makes a record all the same", empty.recordCount(), 1);
    }

    private static void restOf5000() {
        CellCycler x = Check.loaded(CELL + "program rest 5000");
        x.start(0, 0);
        CHECK.same("4999", x.advance(4999), 0);
        CHECK.same("lasted", x.value(0, 3), 4999);
        CHECK.same("5000", x.advance(1), 1);
    }

    /** Charging 1 a tick at 5000 mV for 100000: the voltage rises by 1 in 20 ticks. */
    private static CellCycler slow(String step, int ticks) {
        CellCycler x = Check.loaded("curve a 0 5000;efficiency 1000;cell a 100000 1 0 1;program " + step + " rest 3");
        x.start(0, 0);
        for (int left = ticks; left > 0; left -= 5000) {
            CHECK.same("no end before", x.advance(Math.min(left, 5000)), 0);
        }
        return x;
    }

    private static void lastOf20000() {
        CellCycler ends = slow("charge 1 3500", 19999);
        CHECK.same("19999 are no reason", ends.value(0, 0), RUNNING);
        CHECK.same("lasted", ends.value(0, 3), 19999);
        CHECK.same("it ends in tick 20000", ends.advance(1), 1);
        CHECK.same("and does not trip", ends.value(0, 0) + 10 * ends.value(0, 10), RUNNING);
        CHECK.same("the step behind it", ends.value(0, 2), 1);
        CellCycler trips = slow("charge 1 3501", 19999);
        CHECK.same("it does not end", trips.advance(1), 0);
        CHECK.same("and trips in tick 20000", trips.value(0, 0), TRIPPED);
        CHECK.same("for reason 4", trips.value(0, 10), 4);
        CHECK.same("in its step", trips.value(0, 2), 0);
        CHECK.same("that lasted", trips.value(0, 3), 20000);
        CHECK.same("as the log tells", trips.logEntry(1, 2) * 10 + trips.logEntry(1, 3), 34);
        CHECK.same("at this time", trips.logEntry(1, 0), 20000);
        // In a pause it lasts no longer.
        CellCycler paused = slow("charge 1 3501", 19999);
        paused.pause(0);
        paused.advance(3);
        paused.resume(0);
        CHECK.same("19999 still", paused.value(0, 3), 19999);
        paused.advance(1);
        CHECK.same("trips then", paused.value(0, 10), 4);
        // A voltage that is too great is the reason named first.
        CellCycler both = slow("charge 1 3501", 19999);
        both.setLimits(0, 3499);
        both.advance(1);
        CHECK.same("reason 1 before 4", both.value(0, 10), 1);
        CellCycler low = slow("charge 1 3501", 19999);
        low.setLimits(3501, 5000);
        low.advance(1);
        CHECK.same("reason 2 before 4", low.value(0, 10), 2);
        // The ticks of the step before do not count.
        CellCycler second = slow("charge 1 3500", 19999);
        second.advance(3);
        CHECK.same("a new step counts from 0", second.value(0, 3) * 10 + second.value(0, 0), 21);
    }

    private static void tripsAtTheBounds() {
        // After one tick the voltage is 3610, or 3390.
        for (int high = 3609; high <= 3611; high++) {
            CellCycler x = Check.loaded(CELL + "program charge 100 5000;limits 0 " + high + " 600");
            x.start(0, 0);
            x.advance(1);
            CHECK.same("3610 with HIGH " + high, x.value(0, 10), high < 3610 ? 1 : 0);
            CHECK.same("its state", x.value(0, 0), high < 3610 ? TRIPPED : RUNNING);
        }
        for (int low = 3389; low <= 3391; low++) {
            CellCycler x = Check.loaded(CELL + "program discharge 100 0;limits " + low + " 5000 600");
            x.start(0, 0);
            x.advance(1);
            CHECK.same("3390 with LOW " + low, x.value(0, 10), low > 3390 ? 2 : 0);
            CHECK.same("its state", x.value(0, 0), low > 3390 ? TRIPPED : RUNNING);
        }
        for (int hot = 299; hot <= 301; hot++) {
            CellCycler x = Check.loaded(CELL + "program rest 5;ambient 300;limits 0 5000 " + hot);
            x.start(0, 0);
            x.advance(1);
            CHECK.same("300 with HOT " + hot, x.value(0, 10), hot < 300 ? 3 : 0);
        }
        CellCycler high = Check.loaded(CELL + "program rest 5;ambient 300;limits 0 3499 299");
        high.start(0, 0);
        high.advance(1);
        CHECK.same("reason 1 before 3", high.value(0, 10), 1);
        CellCycler low = Check.loaded(CELL + "program rest 5;ambient 300;limits 3501 5000 299");
        low.start(0, 0);
        low.advance(1);
        CHECK.same("reason 2 before 3", low.value(0, 10), 2);
        CellCycler end = Check.loaded(CELL + "program rest 1;ambient 300;limits 0 5000 299");
        end.start(0, 0);
        CHECK.same("a trip, though the step would end", end.advance(1), 0);
        CHECK.same("its step does not", end.value(0, 2), 0);
        CHECK.same("tripped", end.value(0, 0), TRIPPED);
        CellCycler idle = Check.loaded(CELL + "program rest 1;ambient 300;limits 3501 5000 299");
        idle.advance(3);
        CHECK.same("one that is not running does not trip", idle.value(0, 0), IDLE);
        idle.start(0, 0);
        idle.pause(0);
        idle.advance(3);
        CHECK.same("nor one that is paused", idle.value(0, 0), PAUSED);
        CellCycler latest = Check.loaded(CELL + "program rest 5;ambient 300;limits 0 5000 299");
        CHECK.same("no trip yet", latest.value(0, 10), 0);
        latest.start(0, 0);
        latest.advance(1);
        latest.stop(0);
        latest.setLimits(0, 3499);
        latest.start(0, 0);
        CHECK.same("of the latest trip", latest.value(0, 10), 3);
        latest.advance(1);
        CHECK.same("and the next one", latest.value(0, 10), 1);
    }

    // ---- repeat

    private static void timesOfRepeats() {
        for (int times : new int[] {1, 2, 49, 50}) {
            CellCycler x = Check.loaded(CELL + "program rest 1 repeat 0 " + times + " rest 1");
            x.start(0, 0);
            for (int n = 1; n <= times; n++) {
                x.advance(1);
                CHECK.same("back to 0", x.value(0, 2), 0);
                CHECK.same("so many times", x.repeats(0, 1), n);
            }
            x.advance(1);
            CHECK.same("past it", x.value(0, 2), 2);
            CHECK.same("its number is 0", x.repeats(0, 1), 0);
            CHECK.same("the end", x.advance(1), 1);
            CHECK.same("done", x.value(0, 0), DONE);
            CHECK.same("all ticks", x.now(), times + 2);
        }
    }

    private static void repeatsOfOtherSteps() {
        CellCycler x = Check.loaded(CELL + "cell a 1000 100 0 1;"
                + "program rest 1 repeat 0 3 rest 9;program rest 9 rest 1 repeat 0 3");
        CHECK.same("before a start", x.repeats(0, 1), 0);
        x.start(0, 0);
        x.advance(2);
        CHECK.same("two times", x.repeats(0, 1), 2);
        for (int step : new int[] {-1, 0, 2, 3, 11, 12, 13, 48, Integer.MIN_VALUE, Integer.MAX_VALUE}) {
            CHECK.same("no repeat step " + step, x.repeats(0, step), 0);
        }
        CHECK.same("of the other channel", x.repeats(1, 1), 0);
        x.stop(0);
        CHECK.same("it ran this one last", x.repeats(0, 1), 2);
        x.start(0, 1);
        CHECK.same("another program's step", x.repeats(0, 1) + x.repeats(0, 2), 0);
        x.stop(0);
        x.replace(0, 500);
        CHECK.same("a new cell has run none", x.repeats(0, 1), 0);
    }

    private static void repeatAtTheEnd() {
        CellCycler x = Check.loaded(CELL + "program rest 1 rest 2 repeat 1 1;program rest 3");
        x.start(0, 0);
        x.enqueue(0, 1);
        CHECK.same("five ticks", x.advance(5), 3);
        CHECK.same("behind the repeat comes the queue", x.value(0, 1), 1);
        CHECK.same("without a repeat", x.repeats(0, 2), 0);
        CellCycler of = Check.loaded(CELL + "program rest 1 repeat 0 1 repeat 1 1 rest 1");
        of.start(0, 0);
        // Step 2 goes back to step 1, which goes back to step 0, as its number is 0 again.
        int[] steps = {0, 0, 3};
        for (int step : steps) {
            of.advance(1);
            CHECK.same("a repeat of a repeat", of.value(0, 2), step);
        }
    }

    public static void main(String[] args) {
        endOfTime();
        ticksOfOneCall();
        startInStates();
        pauseInStates();
        skipInStates();
        stopInStates();
        replaceInStates();
        replacedIsAsLoaded();
        statesOfOthers();
        sixAtOnce();
        queueOfFour();
        queueInStates();
        queueRunsEmpty();
        skipOver();
        skipMakesNothing();
        endsOfSteps();
        restOf5000();
        lastOf20000();
        tripsAtTheBounds();
        timesOfRepeats();
        repeatsOfOtherSteps();
        repeatAtTheEnd();
        CHECK.finish();
    }
}
