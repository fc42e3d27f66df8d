/** Promises 25 to 42: cells, ledgers, what is measured and counted, and finding channels. */
public final class CellTest {
    private static final Check CHECK = new Check();
    private static final String CURVE = "curve a 3000 4000;";
    private static final String PLAIN = CURVE + "efficiency 1000;cell a 1000 100 0 1;";

    private static void restVoltages() {
        CellCycler x = Check.loaded("curve a 3000 3100 3500 4000;cell a 1000 100 0 1;"
                + "curve b 0 0 0 0 0 0 0 0 0 0 5000;cell b 100 1 0 1;curve c 7 7;cell c 100 1 0 1");
        int[] charges = {0, 333, 334, 335, 1000, 1500, 200000};
        int[] voltages = {3000, 3099, 3100, 3102, 4000, 4750, 302500};
        for (int k = 0; k < charges.length; k++) {
            CHECK.same("rest at " + charges[k], x.restVoltage(0, charges[k]), voltages[k]);
        }
        CHECK.same("a great one", x.restVoltage(1, 200000), 99955000);
        CHECK.fails("charge -1", "argument", () -> x.restVoltage(0, -1));
        CHECK.fails("charge 200001", "argument", () -> x.restVoltage(0, 200001));
        CHECK.fails("channel first", "index", () -> x.restVoltage(3, -1));
        int[] asked = {0, 3000, 3001, 3100, 3101, 4000, 4001};
        int[] found = {0, 0, 4, 334, 335, 1000, -1};
        for (int k = 0; k < asked.length; k++) {
            CHECK.same("charge for " + asked[k], x.chargeFor(0, asked[k]), found[k]);
        }
        CHECK.same("flat at 0", x.chargeFor(1, 0), 0);
        CHECK.same("the last piece", x.chargeFor(1, 1), 91);
        CHECK.same("all of it", x.chargeFor(1, 5000), 100);
        CHECK.same("a flat curve", x.chargeFor(2, 7), 0);
        CHECK.same("above a flat curve", x.chargeFor(2, 8), -1);
        CHECK.fails("voltage -1", "argument", () -> x.chargeFor(0, -1));
        CHECK.fails("voltage 5001", "argument", () -> x.chargeFor(0, 5001));
        CHECK.fails("channel first", "index", () -> x.chargeFor(-1, -1));
    }

    private static void values() {
        CellCycler x = Check.loaded(PLAIN + "program rest 3 charge 100 5000");
        int[] fresh = {0, -1, -1, 0, 0, 0, 500, 1000, 0, 250, 0};
        for (int k = 0; k < fresh.length; k++) {
            CHECK.same("fresh value " + k, x.value(0, k), fresh[k]);
        }
        x.start(0, 0);
        x.advance(5);
        int[] later = {1, 0, 1, 2, 100, 3710, 700, 1000, 0, 250, 0};
        for (int k = 0; k < later.length; k++) {
            CHECK.same("later value " + k, x.value(0, k), later[k]);
        }
        CHECK.fails("what -1", "argument", () -> x.value(0, -1));
        CHECK.fails("what 11", "argument", () -> x.value(0, 11));
        CHECK.fails("channel first", "index", () -> x.value(1, 11));
        CHECK.same("filling", x.filling(0), 700);
        CHECK.same("power", x.power(0), 371);
        CHECK.fails("filling", "index", () -> x.filling(1));
        CHECK.fails("power", "index", () -> x.power(1));
    }

    private static void charging() {
        CellCycler x = Check.loaded(CURVE + "cell a 1000 100 0 1;program charge 55 5000");
        x.start(0, 0);
        int[] charges = {554, 608, 663};
        for (int charge : charges) {
            x.advance(1);
            CHECK.same("what is left over is kept", x.value(0, 6), charge);
        }
        CHECK.same("all went in", x.ledger(0, 0), 165L);
        CHECK.same("nothing went out", x.ledger(0, 1), 0L);
        CHECK.same("went through", x.ledger(0, 2), 165L);
        // 55 times the voltages 3559, 3613 and 3668.
        CHECK.same("energy", x.ledger(0, 3), 55L * (3559 + 3613 + 3668));
        CHECK.same("no energy out", x.ledger(0, 4), 0L);
        CHECK.fails("ledger 5", "argument", () -> x.ledger(0, 5));
        CHECK.fails("ledger -1", "argument", () -> x.ledger(0, -1));
        CHECK.fails("ledger channel", "index", () -> x.ledger(1, 5));
    }

    private static void holding() {
        CellCycler x = Check.loaded(PLAIN + "program hold 3510 50 rest 1");
        x.start(0, 0);
        CHECK.same("i is greater than I", x.advance(1), 0);
        CHECK.same("current", x.value(0, 4), 100);
        CHECK.same("voltage", x.value(0, 5), 3610);
        CHECK.same("ends", x.advance(1), 1);
        CHECK.same("not below 0", x.value(0, 4), 0);
        CellCycler most = Check.loaded(CURVE + "cell a 100000 1 0 1;program hold 3510 5000");
        most.start(0, 0);
        CHECK.same("i is at most I", most.advance(1), 1);
        CHECK.same("not above 5000", most.value(0, 4), 5000);
        CellCycler more = Check.loaded(CURVE + "efficiency 1000;cell a 1000 200 400 2;limits 0 5000 1000;"
                + "program charge 500 3000 hold 4500 1");
        more.start(0, 0);
        more.advance(1);
        // The charge is 1000, the polarization 100: 4500 - 4000 - 100 over 200.
        more.advance(1);
        CHECK.same("polarization counts", more.value(0, 4), 2000);
    }

    private static void emptying() {
        CellCycler x = Check.loaded(PLAIN + "program discharge 100 2000;program charge 500 5000");
        x.replace(0, 130);
        x.start(0, 0);
        CHECK.same("100", x.advance(1), 0);
        CHECK.same("the rest ends it", x.advance(1), 1);
        CHECK.same("current", x.value(0, 4), -30);
        CHECK.same("charge", x.value(0, 6), 0);
        CHECK.same("voltage", x.value(0, 5), 2997);
        CHECK.same("went out", x.ledger(0, 1), 130L);
        CHECK.same("energy out", x.ledger(0, 4), 100L * 3020 + 30L * 2997);
        CHECK.same("power", x.power(0), -89);
        CHECK.same("none went in", x.chargeEfficiency(0), 0.0f);
        CHECK.same("no energy went in", x.energyEfficiency(0), 0.0);
        x.start(0, 1);
        x.advance(1);
        CHECK.same("charge efficiency", x.chargeEfficiency(0), 130f / 500f);
        CHECK.same("energy efficiency", x.energyEfficiency(0), 391910.0 / 1775000.0);
        CHECK.fails("chargeEfficiency", "index", () -> x.chargeEfficiency(1));
        CHECK.fails("energyEfficiency", "index", () -> x.energyEfficiency(-1));
    }

    private static void overfilling() {
        CellCycler x = Check.loaded("curve a 3000 3000;cell a 1000 1 0 1;program charge 1600 5000");
        x.start(0, 0);
        x.advance(1);
        CHECK.same("1584 more are too much", x.value(0, 6), 2000);
        CHECK.same("all went in", x.ledger(0, 0), 1600L);
        CHECK.same("filling", x.filling(0), 2000);
        CHECK.same("band 9", x.ticksIn(0, 9), 1);
    }

    private static void polarization() {
        CellCycler x = Check.loaded("curve a 3000 3000;cell a 100000 100 200 2;program charge 500 5000;"
                + "program discharge 500 0");
        x.start(0, 0);
        int[] up = {50, 75, 87, 93, 96, 98, 99, 100, 100};
        for (int p : up) {
            x.advance(1);
            CHECK.same("toward 100", x.value(0, 8), p);
            CHECK.same("in the voltage", x.value(0, 5), 3050 + p);
        }
        x.stop(0);
        int[] down = {50, 25, 13, 7, 4, 2, 1, 0, 0};
        for (int p : down) {
            x.advance(1);
            CHECK.same("toward 0", x.value(0, 8), p);
            CHECK.same("in the voltage", x.value(0, 5), 3000 + p);
        }
        x.start(0, 1);
        x.advance(8);
        CHECK.same("below 0", x.value(0, 8), -100);
    }

    private static void fading() {
        CellCycler x = Check.loaded(PLAIN + "fade 100;program charge 250 5000 ;program discharge 250 0");
        x.start(0, 0);
        x.advance(1);
        CHECK.same("two less", x.value(0, 7), 998);
        CHECK.same("50 are left", x.ledger(0, 2), 50L);
        CHECK.same("filling of 998", x.filling(0), 751);
        // 1000 * 750 / 998 is 751.
        CHECK.same("the voltage is of 998 too", x.value(0, 5), 3776);
        x.stop(0);
        x.start(0, 1);
        x.advance(1);
        CHECK.same("and three", x.value(0, 7), 995);
        CHECK.same("nothing is left", x.ledger(0, 2), 0L);
        CellCycler least = Check.loaded("curve a 3000 3000;fade 100;cell a 101 1 0 1;heat 10000 100;"
                + "program charge 5000 5000");
        least.start(0, 0);
        least.advance(1);
        CHECK.same("50 less", least.value(0, 7), 51);
        least.advance(1);
        CHECK.same("not less than half", least.value(0, 7), 50);
        CHECK.same("taken all the same", least.ledger(0, 2), 0L);
        CHECK.same("filling", least.filling(0), 4040);
        CHECK.same("charge for", least.chargeFor(0, 3000), 0);
    }

    private static void heating() {
        CellCycler x = Check.loaded("curve a 3000 3000;cell a 100000 100 0 1;program charge 1000 5000;"
                + "program charge 55 5000");
        x.start(0, 0);
        int[] temperatures = {251, 251, 252, 253};
        for (int t : temperatures) {
            x.advance(1);
            CHECK.same("warmer", x.value(0, 9), t);
        }
        x.replace(0, 500);
        x.stop(0);
        x.setAmbient(0);
        CHECK.same("not at once", x.value(0, 9), 253);
        CellCycler y = Check.loaded("curve a 3000 3000;cell a 100000 100 0 1;program rest 9");
        y.setAmbient(0);
        y.advance(1);
        CHECK.same("colder", y.value(0, 9), 238);
        y.advance(1);
        CHECK.same("the remainder has its sign", y.value(0, 9), 226);
        CellCycler z = Check.loaded("curve a 3000 3000;cell a 100000 100 0 1;heat 1 0;"
                + "program charge 55 5000;program charge 100 5000");
        z.start(0, 0);
        z.advance(1);
        CHECK.same("3 * 100 / 1000", z.value(0, 9), 250);
        z.stop(0);
        z.start(0, 1);
        z.advance(1);
        CHECK.same("10 * 100 / 1000", z.value(0, 9), 251);
    }

    private static void derating() {
        String text = "curve a 3000 3000;cell a 100000 100 0 1;program charge 1000 5000;"
                + "program discharge 1000 0;limits 0 5000 300;";
        int[] spans = {100, 51, 50, 0};
        int[] currents = {500, 980, 1000, 1000};
        for (int k = 0; k < spans.length; k++) {
            CellCycler x = Check.loaded(text + "derate " + spans[k]);
            x.start(0, 0);
            x.advance(1);
            CHECK.same("SPAN " + spans[k], x.value(0, 4), currents[k]);
        }
        CellCycler down = Check.loaded(text + "derate 100");
        down.start(0, 1);
        down.advance(1);
        CHECK.same("of a discharge", down.value(0, 4), -500);
        CellCycler hot = Check.loaded(text + "derate 100;ambient 400");
        hot.start(0, 0);
        hot.advance(1);
        CHECK.same("not below 0", hot.value(0, 4), 0);
        CHECK.same("and it trips", hot.value(0, 10), 3);
    }

    private static void bands() {
        CellCycler x = Check.loaded(PLAIN + "program rest 9");
        int[] charges = {0, 99, 100, 899, 900, 1000};
        int[] bands = {0, 0, 1, 8, 9, 9};
        for (int k = 0; k < charges.length; k++) {
            x.replace(0, charges[k]);
            x.advance(3);
            for (int band = 0; band < 10; band++) {
                CHECK.same("idle at " + charges[k] + " in " + band, x.ticksIn(0, band),
                        band == bands[k] ? 3 : 0);
            }
        }
        CHECK.fails("band -1", "argument", () -> x.ticksIn(0, -1));
        CHECK.fails("band 10", "argument", () -> x.ticksIn(0, 10));
        CHECK.fails("channel first", "index", () -> x.ticksIn(1, 10));
    }

    private static void resistances() {
        CellCycler x = Check.loaded(PLAIN + "program rest 2 charge 100 5000 rest 2 discharge 100 0");
        CHECK.same("none", x.internalResistance(0), -1);
        x.start(0, 0);
        x.advance(2);
        CHECK.same("no other current", x.internalResistance(0), -1);
        x.advance(1);
        // From 3500 to 3610 with 100 more.
        CHECK.same("first tick", x.internalResistance(0), 1100);
        x.advance(1);
        CHECK.same("not in the second tick", x.internalResistance(0), 1100);
        x.pause(0);
        x.advance(1);
        x.resume(0);
        x.advance(1);
        CHECK.same("not when it runs on", x.internalResistance(0), 1100);
        x.skip(0);
        x.advance(1);
        // From 3810 to 3800 with 100 less.
        CHECK.same("at the rest", x.internalResistance(0), 100);
        CHECK.fails("internalResistance", "index", () -> x.internalResistance(1));
        CellCycler y = Check.loaded(PLAIN + "program discharge 100 0");
        y.start(0, 0);
        y.advance(1);
        CHECK.same("from voltage 0, current 0", y.internalResistance(0), -33900);
    }

    private static void restMeasured() {
        CellCycler x = Check.loaded(PLAIN + "program rest 2 charge 100 3000 rest 1");
        CHECK.same("none", x.measuredRest(0), -1);
        x.start(0, 0);
        x.advance(1);
        CHECK.same("not yet", x.measuredRest(0), -1);
        x.advance(1);
        CHECK.same("first", x.measuredRest(0), 3500);
        x.advance(1);
        CHECK.same("stays", x.measuredRest(0), 3500);
        x.advance(1);
        CHECK.same("second", x.measuredRest(0), 3600);
        CHECK.fails("measuredRest", "index", () -> x.measuredRest(1));
    }

    private static void warnings() {
        CellCycler x = Check.loaded(PLAIN + "warn 3500 3700 249;program charge 100 5000;"
                + "program discharge 100 0;heat 100 0");
        x.advance(1);
        CHECK.same("not when idle", x.warned(0), 0);
        x.start(0, 0);
        x.advance(1);
        CHECK.same("hot", x.warned(0), 3);
        CHECK.same("counts", x.warnings(0), 1);
        x.advance(1);
        CHECK.same("high comes first", x.warned(0), 1);
        CHECK.same("another reason counts", x.warnings(0), 2);
        x.advance(1);
        CHECK.same("the same does not", x.warnings(0), 2);
        CHECK.same("two in the log", x.eventsOf(0, 4), 2);
        CHECK.same("reason", x.logEntry(1, 3), 3);
        CHECK.same("reason", x.logEntry(2, 3), 1);
        x.pause(0);
        CHECK.same("still of the latest tick", x.warned(0), 1);
        x.advance(1);
        CHECK.same("not when paused", x.warned(0), 0);
        x.resume(0);
        x.advance(1);
        CHECK.same("anew", x.warnings(0), 3);
        x.stop(0);
        x.replace(0, 600);
        CHECK.same("none of a new cell", x.warnings(0), 0);
        x.start(0, 1);
        x.advance(1);
        CHECK.same("low too comes before hot", x.warned(0), 2);
        CHECK.fails("warned", "index", () -> x.warned(1));
        CHECK.fails("warnings", "index", () -> x.warnings(-1));
        CellCycler edge = Check.loaded(PLAIN + "warn 3500 3500 250;program rest 5");
        edge.start(0, 0);
        edge.advance(1);
        CHECK.same("the bounds themselves are no reason", edge.warned(0), 0);
        CellCycler usual = Check.loaded("curve a 0 0;curve b 5000 5000;cell a 1000 500 0 1;"
                + "cell b 1000 1 0 1;cell b 1000 1 0 1;program rest 5;program charge 1000 5000");
        usual.start(0, 0);
        usual.start(1, 0);
        usual.start(2, 1);
        usual.advance(1);
        CHECK.same("0 is not below the usual LOW", usual.warned(0), 0);
        CHECK.same("5000 is not above the usual HIGH", usual.warned(1), 0);
        CHECK.same("5001 is", usual.warned(2), 1);
        CellCycler below = Check.loaded("curve a 0 0;cell a 1000 10 0 1;program discharge 100 0");
        below.start(0, 0);
        below.advance(1);
        CHECK.same("1 below 0", below.value(0, 5), -1);
        CHECK.same("is below the usual LOW", below.warned(0), 2);
        CellCycler hotter = Check.loaded("curve a 0 0;cell a 1000 100 0 1;heat 1 0;limits 0 5000 1000;"
                + "program charge 2740 5000;program charge 100 5000");
        hotter.start(0, 0);
        hotter.advance(1);
        CHECK.same("750 more", hotter.value(0, 9), 1000);
        CHECK.same("1000 is not above the usual HOT", hotter.warned(0), 0);
        hotter.stop(0);
        hotter.start(0, 1);
        hotter.advance(1);
        CHECK.same("1001 is", hotter.warned(0), 3);
        CellCycler trip = Check.loaded(PLAIN + "warn 0 3400 1000;limits 0 3400 600;program rest 5");
        trip.start(0, 0);
        trip.advance(1);
        CHECK.same("a warning", trip.logEntry(1, 2), 4);
        CHECK.same("comes before a trip", trip.logEntry(2, 2), 3);
        CHECK.same("with its reason", trip.logEntry(2, 3), 1);
        CHECK.same("warned in the tick of the trip", trip.warned(0), 1);
        trip.advance(1);
        CHECK.same("and not behind it", trip.warned(0), 0);
    }

    private static void finding() {
        CellCycler x = Check.loaded(CURVE + "fade 100;cell a 1000 100 0 1;cell a 100000 100 0 1;"
                + "cell a 1000 100 0 1;program charge 100 5000;program charge 5000 5000");
        CHECK.same("weakest of equals", x.weakest(), 0);
        CHECK.same("hottest of equals", x.hottest(), 0);
        x.start(1, 0);
        x.advance(1);
        CHECK.same("one less in 100000", x.value(1, 7), 99999);
        CHECK.same("is 999 thousandths", x.weakest(), 1);
        x.start(2, 0);
        x.advance(1);
        CHECK.same("as is one less in 1000", x.weakest(), 1);
        x.advance(1);
        CHECK.same("two less", x.weakest(), 2);
        x.stop(1);
        x.start(1, 1);
        x.advance(1);
        CHECK.same("the hottest", x.hottest(), 1);
        CHECK.same("running", x.inState(1), 6);
        CHECK.same("idle", x.inState(0), 1);
        x.pause(2);
        CHECK.same("paused", x.inState(2), 4);
        CHECK.same("done", x.inState(3), 0);
        x.setLimits(0, 0);
        x.advance(1);
        CHECK.same("tripped", x.inState(4), 2);
        CHECK.fails("state -1", "argument", () -> x.inState(-1));
        CHECK.fails("state 5", "argument", () -> x.inState(5));
        CellCycler none = new CellCycler();
        CHECK.same("no weakest", none.weakest(), -1);
        CHECK.same("no hottest", none.hottest(), -1);
        CHECK.same("none idle", none.inState(0), 0);
    }

    public static void main(String[] args) {
        restVoltages();
        values();
        charging();
        holding();
        emptying();
        overfilling();
        polarization();
        fading();
        heating();
        derating();
        bands();
        resistances();
        restMeasured();
        warnings();
        finding();
        CHECK.finish();
    }
}
