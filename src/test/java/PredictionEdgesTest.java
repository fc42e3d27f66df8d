/**
 * Promises 50 to 59: predictions at their greatest and least numbers of ticks, for channels in every
 * state, behind the last time, and that they change nothing.
 */
public final class PredictionEdgesTest {
    private static final Check CHECK = new Check();
    /** The voltage is 3000 more than the charge and a tenth of the current. */
    private static final String CELL = "curve a 3000 4000;efficiency 1000;heat 10000 0;cell a 1000 100 0 1;";
    private static final String FLAT = "curve a 3000 3000;efficiency 1000;cell a 100000 100 0 1;";
    private static final String LONG = "program rest 5000 repeat 0 5;program rest 5000 repeat 0 5 rest 1;"
            + "program rest 4999 rest 5000 repeat 1 4";
    private static final int RUNNING = 1;

    private static void advance(CellCycler x, int ticks) {
        for (int left = ticks; left > 0; left -= 5000) {
            x.advance(Math.min(left, 5000));
        }
    }

    private static CellCycler started(String text) {
        CellCycler x = Check.loaded(text);
        x.start(0, 0);
        return x;
    }

    /** Channel 0 in a state from 0 to 4; it has run program 0, of two long rests, and 1, which is over at once. */
    private static CellCycler in(int state) {
        CellCycler x = Check.loaded(CELL + "cell a 1000 100 0 1;program rest 50 rest 60;program rest 1;"
                + "program charge 100 5000");
        if (state == 3) {
            x.start(0, 1);
            x.advance(1);
        } else if (state == 4) {
            x.start(0, 2);
            x.setLimits(0, 3000);
            x.advance(1);
            x.setLimits(0, 5000);
        } else if (state != 0) {
            x.start(0, 0);
            x.advance(10);
            if (state == 2) {
                x.pause(0);
            }
        }
        CHECK.same("state", x.value(0, 0), state);
        return x;
    }

    // ---- promises 50 to 52

    private static void inEveryState() {
        int[] steps = {-1, 40, -1, -1, -1};
        int[] done = {-1, 100, -1, 0, -1};
        int[] settled = {0, -1, 0, 0, 0};
        for (int state = 0; state < 5; state++) {
            CellCycler x = in(state);
            CHECK.same("stepEndsIn in " + state, x.stepEndsIn(0), steps[state]);
            CHECK.same("doneIn in " + state, x.doneIn(0), done[state]);
            CHECK.same("tripsIn in " + state, x.tripsIn(0), -1);
            CHECK.same("settledIn in " + state, x.settledIn(0), settled[state]);
            CHECK.same("duration in " + state, x.duration(0, 0), 110);
            CHECK.same("shortest in " + state, x.shortest(0), 1);
            CHECK.same("capacityIf in " + state, x.capacityIf(0, 0), -1);
            CHECK.same("safeCurrent in " + state, x.safeCurrent(0, 1), state == 4 ? 1200 : 1300);
            x.enqueue(0, 1);
            CHECK.same("with a queue in " + state, x.doneIn(0), state == RUNNING ? 101 : done[state]);
            CHECK.same("duration without it", x.duration(0, 0), 110);
            x.setLimits(0, 3499);
            CHECK.same("now it trips", x.tripsIn(0), state == RUNNING ? 1 : -1);
            CHECK.same("before its step ends", x.stepEndsIn(0), -1);
            CHECK.same("and is not done", x.doneIn(0), state == 3 ? 0 : -1);
        }
    }

    private static void endOfStepAtOnce() {
        CellCycler x = started(CELL + "program rest 1 rest 1;program charge 100 3610 rest 1;program charge 100 3611 rest 1");
        CHECK.same("one tick", x.stepEndsIn(0), 1);
        x.advance(1);
        CHECK.same("of the next step", x.stepEndsIn(0), 1);
        x.stop(0);
        x.start(0, 1);
        CHECK.same("its voltage is reached", x.stepEndsIn(0), 1);
        x.stop(0);
        x.start(0, 2);
        CHECK.same("one mV more", x.stepEndsIn(0), 2);
        CHECK.same("done", x.doneIn(0), 3);
        x.setLimits(0, 3709);
        CHECK.same("in the tick of a trip it does not end", x.stepEndsIn(0), -1);
        CHECK.same("which is", x.tripsIn(0), 2);
        CHECK.same("nor is it done", x.doneIn(0), -1);
        x.setLimits(0, 3710);
        CHECK.same("HIGH itself is no trip", x.stepEndsIn(0), 2);
        CHECK.same("no trip", x.tripsIn(0), -1);
    }

    private static void lastOf20000() {
        String slow = "curve a 0 5000;efficiency 1000;cell a 100000 1 0 1;program charge 1 ";
        CellCycler ends = started(slow + "3500 rest 3");
        CHECK.same("20000", ends.stepEndsIn(0), 20000);
        CHECK.same("done then", ends.doneIn(0), 20003);
        ends.advance(5000);
        CHECK.same("15000 more", ends.stepEndsIn(0), 15000);
        advance(ends, 14999);
        CHECK.same("one more", ends.stepEndsIn(0), 1);
        CHECK.same("no trip", ends.tripsIn(0), -1);
        CellCycler trips = started(slow + "3501 rest 3");
        CHECK.same("it trips before", trips.stepEndsIn(0), -1);
        CHECK.same("in 20000", trips.tripsIn(0), 20000);
        CHECK.same("so it is never done", trips.doneIn(0), -1);
        advance(trips, 19999);
        CHECK.same("now", trips.tripsIn(0), 1);
        CHECK.same("still not", trips.stepEndsIn(0), -1);
        CHECK.same("its reason", trips.valueAfter(0, 10, 1), 4);
        CHECK.same("a pause", trips.pause(0), 0);
        CHECK.same("has none", trips.tripsIn(0), -1);
        // Program 1 begins with 10001 ticks: the step that trips is not the first one.
        CellCycler later = started(slow + "3501;program rest 5000 rest 5000 rest 1 charge 1 3501;"
                + "program rest 5000 rest 5000 charge 1 3501");
        later.stop(0);
        later.start(0, 1);
        CHECK.same("30001", later.tripsIn(0), -1);
        later.stop(0);
        later.start(0, 2);
        CHECK.same("30000", later.tripsIn(0), 30000);
        later.stop(0);
        later.start(0, 1);
        later.advance(1);
        CHECK.same("30000 now", later.tripsIn(0), 30000);
    }

    private static void lastOf30000() {
        CellCycler x = Check.loaded(CELL + LONG + ";program rest 1");
        x.start(0, 0);
        CHECK.same("30000", x.doneIn(0), 30000);
        x.stop(0);
        x.start(0, 1);
        CHECK.same("30001", x.doneIn(0), -1);
        x.advance(1);
        CHECK.same("now 30000", x.doneIn(0), 30000);
        x.stop(0);
        x.start(0, 2);
        CHECK.same("29999", x.doneIn(0), 29999);
        x.enqueue(0, 3);
        CHECK.same("30000 with the queue", x.doneIn(0), 30000);
        x.enqueue(0, 3);
        CHECK.same("30001 with the queue", x.doneIn(0), -1);
        x.dequeue(0);
        CHECK.same("30000 without", x.doneIn(0), 30000);
        CHECK.same("the step", x.stepEndsIn(0), 4999);
    }

    private static void doneWithQueue() {
        CellCycler x = started(CELL + "program rest 7;program rest 20;program discharge 100 3000;"
                + "limits 3200 5000 600");
        CHECK.same("alone", x.doneIn(0), 7);
        for (int n = 1; n <= 4; n++) {
            x.enqueue(0, 1);
            CHECK.same(n + " wait", x.doneIn(0), 7 + 20 * n);
        }
        x.dequeue(0);
        x.enqueue(0, 2);
        // 390 tenths less are 3390, 3290, then 3190.
        CHECK.same("one that waits trips", x.doneIn(0), -1);
        CHECK.same("when", x.tripsIn(0), 7 + 60 + 3);
        CHECK.same("its program then", x.valueAfter(0, 1, 70), 2);
        x.advance(7);
        CHECK.same("seven less", x.tripsIn(0), 63);
    }

    // ---- promises 53 and 54

    private static void ticksOfValues() {
        for (int state = 0; state < 5; state++) {
            CellCycler x = in(state);
            for (int what = 0; what <= 10; what++) {
                CHECK.same("value " + what + " now", x.valueAfter(0, what, 0), x.value(0, what));
            }
            for (int n : new int[] {1, 39, 40, 41, 100, 101, 10000}) {
                CellCycler y = in(state);
                advance(y, n);
                for (int what = 0; what <= 10; what++) {
                    CHECK.same("value " + what + " after " + n + " in " + state,
                            x.valueAfter(0, what, n), y.value(0, what));
                }
            }
        }
        CellCycler x = started(FLAT + "heat 100 0;program charge 100 5000");
        int[] ticks = {0, 99, 100, 9999, 10000};
        int[] temperatures = {250, 250, 251, 349, 350};
        for (int k = 0; k < ticks.length; k++) {
            CHECK.same("temperature after " + ticks[k], x.valueAfter(0, 9, ticks[k]), temperatures[k]);
            CHECK.same("peak to " + ticks[k], x.peakTemperature(0, ticks[k]), temperatures[k]);
        }
        CHECK.same("it has lasted", x.valueAfter(0, 3, 10000), 10000);
    }

    private static void valuesBehindTrips() {
        CellCycler x = started(CELL + "program charge 100 5000;limits 0 3700 600");
        int[] states = {1, 1, 4, 4};
        int[] currents = {0, 100, 100, 0};
        int[] reasons = {0, 0, 1, 1};
        int[] lasted = {0, 1, 2, 2};
        int[] voltages = {0, 3610, 3710, 3700};
        for (int n = 0; n < states.length; n++) {
            CHECK.same("state after " + n, x.valueAfter(0, 0, n), states[n]);
            CHECK.same("step after " + n, x.valueAfter(0, 2, n), 0);
            CHECK.same("lasted after " + n, x.valueAfter(0, 3, n), lasted[n]);
            CHECK.same("current after " + n, x.valueAfter(0, 4, n), currents[n]);
            CHECK.same("voltage after " + n, x.valueAfter(0, 5, n), voltages[n]);
            CHECK.same("reason after " + n, x.valueAfter(0, 10, n), reasons[n]);
        }
        CHECK.same("charge at the end", x.valueAfter(0, 6, 10000), 700);
        CHECK.same("charge now", x.value(0, 6), 500);
    }

    private static void peaks() {
        CellCycler x = started(FLAT + "heat 1 1;program charge 100 3000 rest 5000");
        int[] ticks = {0, 1, 2, 3, 10000};
        int[] due = {250, 251, 251, 251, 251};
        for (int k = 0; k < ticks.length; k++) {
            CHECK.same("peak to " + ticks[k], x.peakTemperature(0, ticks[k]), due[k]);
        }
        x.advance(1);
        CHECK.same("now", x.peakTemperature(0, 0), 251);
        CHECK.same("now is the greatest", x.peakTemperature(0, 10000), 251);
        x.advance(1);
        CHECK.same("what was before is no matter", x.peakTemperature(0, 10000), 250);
        x.setAmbient(0);
        CHECK.same("it falls", x.peakTemperature(0, 10000), 250);
        x.setAmbient(500);
        CHECK.same("not yet", x.peakTemperature(0, 0), 250);
        CHECK.same("it rises", x.peakTemperature(0, 1), 500);
        x.stop(0);
        CHECK.same("of an idle one too", x.peakTemperature(0, 1), 500);
    }

    // ---- promise 55

    private static int settling(int polarization, int tau) {
        int p = polarization;
        int ticks = 0;
        while (p != 0) {
            p += -p / tau != 0 ? -p / tau : p > 0 ? -1 : 1;
            ticks++;
        }
        return ticks;
    }

    private static void settlings() {
        int[] taus = {1, 2, 50, 199, 200};
        String[] steps = {"charge 4000 5000", "discharge 4000 0", "charge 2 5000", "discharge 2 0"};
        for (int tau : taus) {
            for (String step : steps) {
                CellCycler x = started("curve a 2500 2500;heat 10000 0;cell a 100000 1 500 " + tau + ";program " + step);
                CHECK.same("running, though it is 0", x.settledIn(0), -1);
                x.advance(8);
                CHECK.same("running", x.settledIn(0), -1);
                int polarization = x.value(0, 8);
                x.stop(0);
                int due = settling(polarization, tau);
                CHECK.same("from " + polarization + ", TAU " + tau, x.settledIn(0), due);
                x.advance(due);
                CHECK.same("it is 0", x.value(0, 8), 0);
                CHECK.same("settled", x.settledIn(0), 0);
            }
        }
    }

    private static void settlingFromOne() {
        CellCycler x = started("curve a 3000 3000;cell a 100000 1 1 200;program charge 2000 5000");
        x.advance(2);
        x.pause(0);
        CHECK.same("2 are two ticks", x.settledIn(0), 2);
        x.advance(1);
        CHECK.same("1 is one", x.settledIn(0), 1);
        x.advance(1);
        CHECK.same("0 is none", x.settledIn(0), 0);
        x.resume(0);
        CHECK.same("but running", x.settledIn(0), -1);
        // Behind a trip and behind the end of all.
        CellCycler trip = started("curve a 3000 3000;cell a 1000 1 1 1;program charge 1000 5000;limits 0 3000 600");
        trip.advance(1);
        CHECK.same("tripped", trip.settledIn(0) * 10 + trip.value(0, 0), 14);
        CellCycler done = started("curve a 3000 3000;cell a 1000 1 1 1;program charge 1000 3000");
        done.advance(1);
        CHECK.same("done", done.settledIn(0) * 10 + done.value(0, 0), 13);
    }

    // ---- promises 56 to 58

    private static void durationBounds() {
        CellCycler x = Check.loaded(CELL + LONG + ";program rest 1");
        int[] due = {30000, -1, 29999, 1};
        for (int program = 0; program < 4; program++) {
            CHECK.same("duration " + program, x.duration(0, program), due[program]);
        }
        for (int n = 0; n < 4; n++) {
            x.enqueue(0, 3);
        }
        CHECK.same("a full queue is left out", x.duration(0, 0), 30000);
        CHECK.same("and stays", x.queueSize(0), 4);
        CHECK.same("no program 4", Check.outcome(() -> x.duration(0, 4)), "index");
        CHECK.same("no program -1", Check.outcome(() -> x.capacityIf(0, -1)), "index");
        CellCycler none = Check.loaded("curve a 1 1;cell a 100 1 0 1");
        CHECK.same("no program at all", Check.outcome(() -> none.duration(0, 0)), "index");
        CHECK.same("no capacity of it", Check.outcome(() -> none.capacityIf(0, 0)), "index");
        CHECK.same("none is the shortest", none.shortest(0), -1);
        CellCycler empty = new CellCycler();
        CHECK.same("no channel at all", Check.outcome(() -> empty.shortest(0)), "index");
    }

    private static void durationsThatTrip() {
        CellCycler x = Check.loaded(CELL + "program charge 100 3710;program charge 100 3711;limits 0 3710 600");
        CHECK.same("HIGH itself", x.duration(0, 0), 2);
        CHECK.same("more", x.duration(0, 1), -1);
        x.setLimits(0, 3709);
        CHECK.same("in the tick of its end", x.duration(0, 0), -1);
        CellCycler slow = Check.loaded("curve a 0 5000;efficiency 1000;cell a 100000 1 0 1;"
                + "program charge 1 3500;program charge 1 3501");
        CHECK.same("20000", slow.duration(0, 0), 20000);
        CHECK.same("20001", slow.duration(0, 1), -1);
        CHECK.same("so this is the shortest", slow.shortest(0), 0);
    }

    private static void durationFromTheBeginning() {
        CellCycler x = started(CELL + "program rest 5 repeat 0 2 rest 5;program rest 19");
        CHECK.same("20", x.duration(0, 0), 20);
        x.advance(11);
        CHECK.same("its repeats are", x.repeats(0, 1), 2);
        CHECK.same("anew", x.duration(0, 0), 20);
        CHECK.same("what it does takes less", x.doneIn(0), 9);
        CHECK.same("shortest", x.shortest(0), 1);
        CHECK.same("it goes on", x.repeats(0, 1) * 10 + x.value(0, 3), 21);
        x.pause(0);
        CHECK.same("in a pause", x.duration(0, 0), 20);
        x.stop(0);
        CHECK.same("idle", x.duration(0, 1), 19);
    }

    private static void shortestOfEquals() {
        CellCycler x = Check.loaded(CELL + "program rest 3;program rest 2;program rest 2;program charge 100 5000");
        CHECK.same("the smaller of two", x.shortest(0), 1);
        CellCycler y = Check.loaded(CELL + "program rest 2;program rest 2;program rest 3;program rest 2");
        CHECK.same("the smallest of three", y.shortest(0), 0);
        CellCycler z = Check.loaded(CELL + "program rest 3;program rest 3;program rest 3;program rest 1");
        CHECK.same("the last one", z.shortest(0), 3);
        z.setLimits(0, 3499);
        CHECK.same("none gets done", z.shortest(0), -1);
        CellCycler only = Check.loaded(CELL + "program rest 5000 repeat 0 5 rest 1;program rest 5000 repeat 0 5");
        CHECK.same("30001 is none, 30000 is", only.shortest(0), 1);
        CellCycler none = Check.loaded(CELL + "program rest 5000 repeat 0 5 rest 1");
        CHECK.same("30001", none.shortest(0), -1);
    }

    private static void capacitiesBounds() {
        String count = "hold 3000 5000 discharge 100 3390";
        CellCycler x = Check.loaded(CELL + "program " + count + ";program " + count + " rest 5000 repeat 2 4 rest 4998;"
                + "program " + count + " rest 5000 repeat 2 4 rest 4999;program rest 5");
        CHECK.same("100", x.capacityIf(0, 0), 100);
        CHECK.same("done in 30000", x.duration(0, 1), 30000);
        CHECK.same("100 too", x.capacityIf(0, 1), 100);
        CHECK.same("done in 30001", x.capacityIf(0, 2), -1);
        CHECK.same("none without a record", x.capacityIf(0, 3), -1);
        CHECK.same("nothing is kept of this", x.capacityByRule(0), -1);
        x.start(0, 0);
        x.advance(2);
        CHECK.same("it has one", x.capacityByRule(0), 100);
        CHECK.same("and keeps it", x.capacityIf(0, 3), 100);
        CHECK.same("not if it is not done in time", x.capacityIf(0, 2), -1);
        x.setLimits(3391, 5000);
        CHECK.same("nor if it trips", x.capacityIf(0, 0), -1);
    }

    private static void capacitiesOfTheLatest() {
        CellCycler x = Check.loaded(CELL + "program hold 3000 5000 discharge 50 3445 hold 3000 5000 discharge 30 3417;"
                + "program hold 3000 5000 discharge 50 3445 discharge 30 3417;"
                + "program hold 3000 5000 discharge 500 2900;program discharge 50 3445");
        CHECK.same("the latest of two", x.capacityIf(0, 0), 30);
        CHECK.same("the one that counts", x.capacityIf(0, 1), 50);
        CHECK.same("only empty", x.capacityIf(0, 2), -1);
        x.start(0, 1);
        x.advance(1);
        CHECK.same("the hold of what it does now is no matter", x.capacityIf(0, 3), -1);
        x.enqueue(0, 0);
        CHECK.same("its queue is left out", x.capacityIf(0, 3), -1);
        CHECK.same("no record is made", x.recordCount() + x.counting(0), 0);
    }

    // ---- promise 59

    private static void voltagesOfSafeCurrents() {
        // 3000 mV and a tenth of the current, whatever the charge.
        int[] high = {2999, 3000, 3009, 3010, 3019, 3020, 3021, 3489, 3490, 3499, 3500, 5000};
        int[] due = {-1, -1, -1, 100, 100, 200, 200, 4800, 4900, 4900, 5000, 5000};
        for (int k = 0; k < high.length; k++) {
            CellCycler x = Check.loaded(FLAT + "heat 10000 0;limits 0 " + high[k] + " 600");
            CHECK.same("one tick with HIGH " + high[k], x.safeCurrent(0, 1), due[k]);
            CHECK.same("two ticks with HIGH " + high[k], x.safeCurrent(0, 2), due[k]);
            x.setLimits(high[k], high[k]);
            CHECK.same("LOW is no matter", x.safeCurrent(0, 1), due[k]);
        }
        CellCycler x = Check.loaded(CELL + "limits 0 3910 600");
        int[] ticks = {1, 2, 3, 4, 5, 1000};
        int[] currents = {300, 100, 100, 100, -1, -1};
        for (int k = 0; k < ticks.length; k++) {
            CHECK.same(ticks[k] + " ticks", x.safeCurrent(0, ticks[k]), currents[k]);
        }
        x.setLimits(0, 3909);
        CHECK.same("4 ticks with one mV less", x.safeCurrent(0, 4), -1);
    }

    private static void heatOfSafeCurrents() {
        // 100 heats by 1 a tick, 200 by 4, 300 by 9.
        int[] hot = {250, 251, 253, 254, 258, 259};
        int[] due = {-1, 100, 100, 200, 200, 300};
        for (int k = 0; k < hot.length; k++) {
            CHECK.same("HOT " + hot[k],
                    Check.loaded(FLAT + "heat 1 0;limits 0 5000 " + hot[k]).safeCurrent(0, 1), due[k]);
        }
        CellCycler x = Check.loaded(FLAT + "heat 10 0;limits 0 5000 350");
        CHECK.same("100 more in 1000", x.safeCurrent(0, 1000), 100);
        CellCycler y = Check.loaded(FLAT + "heat 10 0;limits 0 5000 349");
        CHECK.same("are too much", y.safeCurrent(0, 1000), -1);
        CHECK.same("99 in 999 are not", y.safeCurrent(0, 999), 100);
        CellCycler cools = Check.loaded(FLAT + "heat 1 1;limits 0 5000 259");
        CHECK.same("9 in a tick, and cooled by as much", cools.safeCurrent(0, 1000), 300);
        CellCycler warm = Check.loaded(FLAT + "heat 1 0;limits 0 5000 299;ambient 300");
        CHECK.same("too hot now", warm.safeCurrent(0, 1), -1);
        // It is too hot between, and not at the end.
        CellCycler between = Check.loaded(FLAT + "heat 100 100;limits 0 5000 250;ambient 0");
        between.setAmbient(251);
        CHECK.same("at 251", between.safeCurrent(0, 1), -1);
    }

    private static void safeFromNowOn() {
        CellCycler x = Check.loaded("curve a 3000 3000;efficiency 1000;heat 10000 0;cell a 100000 100 100 2;"
                + "limits 0 3200 600;program charge 1000 5000;program discharge 1000 0");
        // 3000 + 100 + 50 in the first tick, 75 and 87 then.
        CHECK.same("its polarization rises to half", x.safeCurrent(0, 1), 1300);
        CHECK.same("and on", x.safeCurrent(0, 2), 1100);
        CHECK.same("to all of it", x.safeCurrent(0, 1000), 1000);
        x.start(0, 0);
        x.advance(3);
        CHECK.same("polarization", x.value(0, 8), 87);
        CHECK.same("it counts now", x.safeCurrent(0, 1), 1000);
        x.stop(0);
        x.start(0, 1);
        x.advance(9);
        CHECK.same("behind a discharge", x.value(0, 8), -100);
        CHECK.same("more is safe", x.safeCurrent(0, 1), 1600);
        CHECK.same("it discharges still", x.value(0, 0) * 10000 + x.value(0, 4), 9000);
        x.setLimits(0, 5000);
        CHECK.same("5000 at most", x.safeCurrent(0, 1), 5000);
    }

    private static void safeOfFullCell() {
        CellCycler x = Check.loaded(CELL + "limits 0 5000 600");
        x.replace(0, 1000);
        CHECK.same("up to 5000", x.safeCurrent(0, 1), 900);
        CHECK.same("for 9 ticks", x.safeCurrent(0, 9), 100);
        CHECK.same("twice the charge is no more than 5010", x.safeCurrent(0, 10), -1);
        // The charge is at most 2000, so that 4990 is reached and never passed.
        CellCycler full = Check.loaded("curve a 2990 3980;efficiency 1000;heat 10000 0;cell a 1000 100 0 1;"
                + "fade 1000000");
        CHECK.same("full for ever", full.safeCurrent(0, 1000), 300);
    }

    private static void safeWithDerating() {
        CellCycler x = Check.loaded(FLAT + "heat 10000 0;limits 0 3100 300");
        CHECK.same("not cut", x.safeCurrent(0, 1), 1000);
        x.setDerate(100);
        CHECK.same("cut to half", x.safeCurrent(0, 1), 2000);
        x.setDerate(50);
        CHECK.same("HOT less SPAN is not cut", x.safeCurrent(0, 1), 1000);
        x.setAmbient(300);
        CellCycler hot = Check.loaded(FLAT + "heat 10000 0;limits 0 3000 300;ambient 300;derate 1");
        CHECK.same("nothing is left of it at HOT", hot.safeCurrent(0, 1000), 5000);
    }

    /** Where currents are cut, a greater one may stay cooler than a smaller one. */
    private static void safeBeyondUnsafe() {
        CellCycler x = Check.loaded(FLAT + "heat 1 0;limits 0 5000 400;derate 50");
        CHECK.same("to 394 at once", x.safeCurrent(0, 1), 1200);
        // 800 goes to 314 and 378, 900 to 331 and 412; 1000 to 350, where it isn't cut, and 450;
        // 1200 to 394, and then as 144 to 396; 1300 to 419.
        CHECK.same("800 is safe, 900 is not, 1200 is", x.safeCurrent(0, 2), 1200);
        CellCycler y = Check.loaded("curve a 3000 3000;cell a 100000 350 0 1;heat 1 0;limits 0 5000 264;derate 1");
        // 200 goes to 264, where nothing is left of it; 100 to 253, 256, 259, 262 and 265.
        CHECK.same("100 for 4 ticks, and 200", y.safeCurrent(0, 4), 200);
        CHECK.same("not 100 for 5 ticks", y.safeCurrent(0, 5), -1);
    }

    // ---- time and state

    private static void behindTheLastTime() {
        String text = CELL + "program rest 5000 repeat 0 3;program charge 100 3800 hold 3800 1 rest 5 discharge 100 3000;"
                + "limits 0 4000 600";
        CellCycler x = Check.loaded(text);
        for (int n = 0; n < 60; n++) {
            x.advance(5000);
        }
        CHECK.same("the last time", x.now(), 300000);
        CHECK.same("no tick more", x.advance(1), -2);
        CellCycler y = Check.loaded(text);
        CHECK.same("duration", x.duration(0, 0), 20000);
        CHECK.same("shortest", x.shortest(0), 1);
        CHECK.same("safeCurrent", x.safeCurrent(0, 2), y.safeCurrent(0, 2));
        CHECK.same("capacityIf", x.capacityIf(0, 1), y.capacityIf(0, 1));
        CHECK.same("peak", x.peakTemperature(0, 10000), 250);
        x.start(0, 0);
        CHECK.same("stepEndsIn", x.stepEndsIn(0), 5000);
        CHECK.same("doneIn", x.doneIn(0), 20000);
        CHECK.same("tripsIn", x.tripsIn(0), -1);
        CHECK.same("valueAfter", x.valueAfter(0, 3, 9999), 4999);
        x.setLimits(0, 0);
        CHECK.same("a trip", x.tripsIn(0), 1);
        CHECK.same("its state", x.valueAfter(0, 0, 10000), 4);
        CHECK.same("time is as it was", x.now(), 300000);
    }

    private static CellCycler busy() {
        CellCycler x = Check.loaded("curve a 3000 3200 4000;cell a 1000 100 200 7;cell a 900 50 90 3;fade 5000;"
                + "warn 0 3600 1000;limits 0 4900 600;derate 30;"
                + "program charge 100 3800 hold 3800 20 rest 5 discharge 200 3100 repeat 0 3;program rest 40;"
                + "program hold 3205 50 discharge 30 3050");
        x.start(0, 0);
        x.enqueue(0, 1);
        x.enqueue(0, 2);
        x.advance(23);
        x.start(1, 2);
        x.advance(5);
        return x;
    }

    private static void predict(CellCycler x, int channel, int program) {
        x.stepEndsIn(channel);
        x.doneIn(channel);
        x.tripsIn(channel);
        x.valueAfter(channel, 5, 10000);
        x.peakTemperature(channel, 10000);
        x.settledIn(channel);
        x.duration(channel, program);
        x.shortest(channel);
        x.capacityIf(channel, program);
        x.safeCurrent(channel, 30);
    }

    private static void changeNothing() {
        CellCycler x = busy();
        CellCycler y = busy();
        for (int round = 0; round < 3; round++) {
            for (int channel = 0; channel < 2; channel++) {
                for (int program = 0; program < 3; program++) {
                    predict(x, channel, program);
                }
            }
            x.advance(1);
            y.advance(1);
        }
        CHECK.same("all is as without predictions", Everything.of(x), Everything.of(y));
        predict(x, 0, 0);
        x.pause(0);
        y.pause(0);
        predict(x, 0, 0);
        x.advance(100);
        y.advance(100);
        CHECK.same("and later too", Everything.of(x), Everything.of(y));
        Check.type(x, "a");
        predict(x, 0, 0);
        CHECK.same("the buffer stays", x.curveNamed(), 0);
        CHECK.same("an error", Check.load(x, "cell"), -104);
        predict(x, 0, 0);
        CHECK.same("stays", x.loadError(), 1);
        x.saveSnapshot(1);
        predict(x, 1, 1);
        CHECK.same("nothing in the other slot", x.restoreSnapshot(0), -1);
        CHECK.same("the snapshot stays", x.restoreSnapshot(1), 131);
        CHECK.same("as it was", Everything.of(x), Everything.of(y));
    }

    private static void aloneAsTogether() {
        CellCycler x = busy();
        CellCycler y = busy();
        int done = x.doneIn(0);
        CHECK.same("it gets done", done > 50, true);
        int other = x.valueAfter(1, 6, 50);
        y.stop(1);
        CHECK.same("the other channel is no matter", y.doneIn(0), done);
        y = busy();
        y.stop(0);
        CHECK.same("nor this one for the other", y.valueAfter(1, 6, 50), other);
        advance(x, done - 1);
        CHECK.same("one tick before", x.value(0, 0), RUNNING);
        x.advance(1);
        CHECK.same("done as predicted", x.value(0, 0), 3);
    }

    public static void main(String[] args) {
        inEveryState();
        endOfStepAtOnce();
        lastOf20000();
        lastOf30000();
        doneWithQueue();
        ticksOfValues();
        valuesBehindTrips();
        peaks();
        settlings();
        settlingFromOne();
        durationBounds();
        durationsThatTrip();
        durationFromTheBeginning();
        shortestOfEquals();
        capacitiesBounds();
        capacitiesOfTheLatest();
        voltagesOfSafeCurrents();
        heatOfSafeCurrents();
        safeFromNowOn();
        safeOfFullCell();
        safeWithDerating();
        safeBeyondUnsafe();
        behindTheLastTime();
        changeNothing();
        aloneAsTogether();
        CHECK.finish();
    }
}
