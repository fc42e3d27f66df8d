/**
 * Promises 25 to 42 and sections 2 and 3: what a cell does at the bounds that the document names, each
 * answer worked out by hand.
 */
public final class CellEdgesTest {
    private static final Check CHECK = new Check();
    /** Rest voltage 3000 whatever the charge, and no heat: what is left is what a test is about. */
    private static final String FLAT = "curve a 3000 3000;efficiency 1000;heat 10000 0;";
    private static final String SLOPE = "curve a 3000 4000;efficiency 1000;heat 10000 0;";

    /** Runs a program of one step on channel 0 for so many ticks, in place of what it did. */
    private static void run(CellCycler x, int program, int ticks) {
        x.stop(0);
        x.start(0, program);
        x.advance(ticks);
    }

    private static CellCycler ran(String text, int ticks) {
        CellCycler x = Check.loaded(text);
        run(x, 0, ticks);
        return x;
    }

    // ---- section 2

    private static void chargeAtFirst() {
        int[] capacities = {100, 101, 999, 1000, 99999, 100000};
        int[] charges = {50, 50, 499, 500, 49999, 50000};
        for (int k = 0; k < capacities.length; k++) {
            CellCycler x = Check.loaded(FLAT + "ambient 500;cell a " + capacities[k] + " 1 0 1");
            CHECK.same("half of " + capacities[k], x.value(0, 6), charges[k]);
            CHECK.same("present capacity", x.value(0, 7), capacities[k]);
            CHECK.same("polarization", x.value(0, 8), 0);
            CHECK.same("temperature", x.value(0, 9), 500);
        }
        CellCycler cold = Check.loaded(FLAT + "cell a 100 1 0 1;ambient 0");
        CHECK.same("the ambient one of a later statement", cold.value(0, 9), 0);
    }

    private static void lastPieceOfCurve() {
        CellCycler x = Check.loaded("curve a 0 10 30 60 100 150 210 280 360 450 550;cell a 1000 1 0 1");
        int[] charges = {0, 99, 100, 101, 899, 900, 901, 999, 1000, 1001, 1010, 1100, 2000};
        int[] voltages = {0, 9, 10, 10, 449, 450, 451, 549, 550, 551, 560, 650, 1550};
        for (int k = 0; k < charges.length; k++) {
            CHECK.same("rest voltage at " + charges[k], x.restVoltage(0, charges[k]), voltages[k]);
        }
        CellCycler two = Check.loaded("curve a 3000 4000;cell a 1000 1 0 1");
        CHECK.same("of two voltages, full", two.restVoltage(0, 1000), 4000);
        CHECK.same("one more", two.restVoltage(0, 1001), 4001);
        CHECK.same("the greatest charge", two.restVoltage(0, 200000), 203000);
        CellCycler three = Check.loaded("curve a 3000 3000 4000;cell a 1000 1 0 1");
        CHECK.same("before the bend", three.restVoltage(0, 499), 3000);
        CHECK.same("at the bend", three.restVoltage(0, 500), 3000);
        CHECK.same("behind it", three.restVoltage(0, 501), 3002);
        CHECK.same("beyond", three.restVoltage(0, 1500), 5000);
    }

    private static void restVoltageIsTruncated() {
        CellCycler x = Check.loaded("curve a 3000 3001;cell a 1000 1 0 1;curve b 0 5000;cell b 100000 1 0 1");
        int[] charges = {0, 1, 999, 1000, 1001, 1999, 2000};
        int[] voltages = {3000, 3000, 3000, 3001, 3001, 3001, 3002};
        for (int k = 0; k < charges.length; k++) {
            CHECK.same("rest voltage at " + charges[k], x.restVoltage(0, charges[k]), voltages[k]);
        }
        CHECK.same("19 of 20", x.restVoltage(1, 19), 0);
        CHECK.same("20 of 20", x.restVoltage(1, 20), 1);
        CHECK.same("full", x.restVoltage(1, 100000), 5000);
        CHECK.same("twice", x.restVoltage(1, 200000), 10000);
    }

    private static void restVoltageOfWornCell() {
        CellCycler x = ran(SLOPE + "fade 100;cell a 1000 1 0 1;program charge 100 5000", 1);
        CHECK.same("capacity", x.value(0, 7), 999);
        CHECK.same("at 999 it is full", x.restVoltage(0, 999), 4000);
        CHECK.same("at 1000 beyond", x.restVoltage(0, 1000), 4001);
        CHECK.same("at 998", x.restVoltage(0, 998), 3998);
    }

    private static void chargeRange() {
        CellCycler x = Check.loaded(SLOPE + "cell a 1000 1 0 1");
        for (int charge : new int[] {-1, 200001, Integer.MIN_VALUE, Integer.MAX_VALUE}) {
            CHECK.fails("restVoltage at " + charge, "argument", () -> x.restVoltage(0, charge));
        }
        for (int voltage : new int[] {-1, 5001, Integer.MIN_VALUE, Integer.MAX_VALUE}) {
            CHECK.fails("chargeFor " + voltage, "argument", () -> x.chargeFor(0, voltage));
        }
        CHECK.same("0 is a charge", x.restVoltage(0, 0), 3000);
        CHECK.same("0 is a voltage", x.chargeFor(0, 0), 0);
        CHECK.same("5000 is a voltage", x.chargeFor(0, 5000), -1);
    }

    private static void voltageIsTruncated() {
        // 3500 at the charge 500; what i * R / 1000 is behind it is cut toward 0.
        int[] ohms = {1, 9, 10, 11, 19, 20, 500};
        int[] drops = {0, 0, 1, 1, 1, 2, 50};
        for (int k = 0; k < ohms.length; k++) {
            String cell = "curve a 3500 3500;cell a 1000 " + ohms[k] + " 0 1;";
            CHECK.same("charged, R " + ohms[k],
                    ran(cell + "program charge 100 5000", 1).value(0, 5), 3500 + drops[k]);
            CHECK.same("discharged, R " + ohms[k],
                    ran(cell + "program discharge 100 0", 1).value(0, 5), 3500 - drops[k]);
        }
        CHECK.same("no current", ran("curve a 3500 3500;cell a 1000 500 500 1;program rest 9", 1).value(0, 5), 3500);
    }

    // ---- section 3, (1)

    private static int current(String text) {
        return ran(text, 1).value(0, 4);
    }

    private static void currentsOfSteps() {
        String cell = FLAT + "cell a 100000 1 0 1;limits 0 5000 1000;program ";
        CHECK.same("least charge", current(cell + "charge 1 5000"), 1);
        CHECK.same("greatest charge", current(cell + "charge 5000 5000"), 5000);
        CHECK.same("least discharge", current(cell + "discharge 1 0"), -1);
        CHECK.same("greatest discharge", current(cell + "discharge 5000 0"), -5000);
        CHECK.same("rest", current(cell + "rest 5"), 0);
        CellCycler idle = Check.loaded(cell + "charge 5000 5000");
        idle.advance(1);
        CHECK.same("idle", idle.value(0, 4), 0);
        idle.start(0, 0);
        idle.advance(1);
        idle.pause(0);
        CHECK.same("of the latest tick", idle.value(0, 4), 5000);
        idle.advance(1);
        CHECK.same("paused", idle.value(0, 4), 0);
        idle.resume(0);
        idle.setLimits(0, 0);
        idle.advance(1);
        CHECK.same("in the tick that trips", idle.value(0, 4), 5000);
        idle.advance(1);
        CHECK.same("tripped", idle.value(0, 4), 0);
    }

    private static void holdBounds() {
        // The rest voltage is 3500 at the charge 50000.
        int[] held = {0, 3499, 3500, 3501, 3504, 3505, 3506, 5000};
        int[] currents = {0, 0, 0, 1000, 4000, 5000, 5000, 5000};
        for (int k = 0; k < held.length; k++) {
            CHECK.same("hold " + held[k] + " with R 1",
                    current(SLOPE + "cell a 100000 1 0 1;program hold " + held[k] + " 1"), currents[k]);
        }
        int[] ohms = {7, 9, 333, 499, 500};
        int[] cut = {142, 111, 3, 2, 2};
        for (int k = 0; k < ohms.length; k++) {
            CHECK.same("1 mV with R " + ohms[k],
                    current(SLOPE + "cell a 100000 " + ohms[k] + " 0 1;program hold 3501 1"), cut[k]);
        }
        CHECK.same("below by less than one of R", current(SLOPE + "cell a 100000 500 0 1;program hold 3499 1"), 0);
    }

    private static void holdWithPolarization() {
        // Behind a discharge with 1000 the rest voltage is 3490 and the polarization -100.
        int[] held = {3389, 3390, 3391, 3395, 3396};
        int[] currents = {0, 0, 1000, 5000, 5000};
        for (int k = 0; k < held.length; k++) {
            CellCycler x = ran(SLOPE + "cell a 100000 1 100 1;program discharge 1000 0;program hold "
                    + held[k] + " 1", 1);
            CHECK.same("polarization", x.value(0, 8), -100);
            run(x, 1, 1);
            CHECK.same("hold " + held[k], x.value(0, 4), currents[k]);
        }
        // Behind a charge with 1000 they are 3510 and 100: what is held must be more than 3610.
        int[] more = {3609, 3610, 3611};
        int[] less = {0, 0, 1000};
        for (int k = 0; k < more.length; k++) {
            CellCycler x = ran(SLOPE + "cell a 100000 1 100 1;program charge 1000 5000;program hold "
                    + more[k] + " 1", 1);
            run(x, 1, 1);
            CHECK.same("hold " + more[k], x.value(0, 4), less[k]);
        }
    }

    private static String derated(int ambient, int hot, int span, String step) {
        return FLAT + "cell a 100000 1 0 1;limits 0 5000 " + hot + ";ambient " + ambient + ";derate " + span
                + ";program " + step;
    }

    private static void derateBounds() {
        int[] ambients = {199, 200, 201, 250, 299, 300, 301, 500};
        int[] currents = {1000, 1000, 990, 500, 10, 0, 0, 0};
        for (int k = 0; k < ambients.length; k++) {
            CHECK.same("HOT 300, SPAN 100, at " + ambients[k],
                    current(derated(ambients[k], 300, 100, "charge 1000 5000")), currents[k]);
            CHECK.same("discharge at " + ambients[k],
                    current(derated(ambients[k], 300, 100, "discharge 1000 0")), -currents[k]);
        }
        int[] spans = {0, 1, 2, 49, 50, 51, 200};
        int[] of250 = {5000, 5000, 5000, 5000, 5000, 4901, 1250};
        for (int k = 0; k < spans.length; k++) {
            CHECK.same("SPAN " + spans[k] + " at 250",
                    current(derated(250, 300, spans[k], "charge 5000 5000")), of250[k]);
        }
        CHECK.same("SPAN 1 below HOT", current(derated(299, 300, 1, "charge 5000 5000")), 5000);
        CHECK.same("SPAN 1 at HOT", current(derated(300, 300, 1, "charge 5000 5000")), 0);
        CHECK.same("SPAN 2 between", current(derated(299, 300, 2, "charge 5000 5000")), 2500);
        CHECK.same("SPAN 0 at HOT", current(derated(300, 300, 0, "charge 5000 5000")), 5000);
        CHECK.same("SPAN 0 above HOT", current(derated(301, 300, 0, "charge 5000 5000")), 5000);
        CellCycler x = ran(derated(301, 300, 0, "charge 5000 5000"), 1);
        CHECK.same("and then it trips", x.value(0, 10), 3);
        CellCycler y = ran(derated(300, 300, 50, "charge 5000 5000"), 3);
        CHECK.same("at HOT it runs on", y.value(0, 0), 1);
    }

    private static void derateIsTruncated() {
        // 2 of 3 are left.
        int[] wanted = {1, 2, 4, 100, 5000};
        int[] left = {0, 1, 2, 66, 3333};
        for (int k = 0; k < wanted.length; k++) {
            CHECK.same("2/3 of " + wanted[k],
                    current(derated(298, 300, 3, "charge " + wanted[k] + " 5000")), left[k]);
            CHECK.same("2/3 of -" + wanted[k],
                    current(derated(298, 300, 3, "discharge " + wanted[k] + " 0")), -left[k]);
        }
    }

    private static void derateOfOtherSteps() {
        String hold = "curve b 3500 3500;cell b 100000 1 0 1;limits 0 5000 300;ambient 250;derate 100;"
                + "heat 10000 0;program hold ";
        CHECK.same("a hold with more than 5000 is brought to it first", current(hold + "4000 1"), 2500);
        CHECK.same("a hold", current(hold + "3501 1"), 500);
        CellCycler ends = Check.loaded(hold + "3501 500");
        ends.start(0, 0);
        CHECK.same("and what is left ends it", ends.advance(1), 1);
        CHECK.same("a rest", current(derated(250, 300, 100, "rest 5")), 0);
        CellCycler idle = Check.loaded(derated(250, 300, 100, "charge 1000 5000"));
        idle.advance(1);
        CHECK.same("nothing of an idle one", idle.value(0, 4), 0);
        CellCycler set = Check.loaded(derated(250, 300, 0, "charge 1000 5000"));
        CHECK.same("set", set.setDerate(200), 0);
        run(set, 0, 1);
        CHECK.same("SPAN 200", set.value(0, 4), 250);
        CHECK.same("unset", set.setDerate(0), 200);
        set.advance(1);
        CHECK.same("SPAN 0", set.value(0, 4), 1000);
    }

    private static void derateBeforeEmpty() {
        int[] charges = {0, 1, 40, 49, 50, 51, 99, 100};
        int[] currents = {0, -1, -40, -49, -50, -50, -50, -50};
        for (int k = 0; k < charges.length; k++) {
            CellCycler x = Check.loaded(derated(250, 300, 100, "discharge 100 0"));
            x.replace(0, charges[k]);
            run(x, 0, 1);
            CHECK.same("half of 100 from " + charges[k], x.value(0, 4), currents[k]);
            CHECK.same("what is left", x.value(0, 6), charges[k] + currents[k]);
        }
    }

    private static void notBelowEmpty() {
        int[] charges = {0, 1, 99, 100, 101};
        int[] currents = {0, -1, -99, -100, -100};
        for (int k = 0; k < charges.length; k++) {
            CellCycler x = Check.loaded(FLAT + "cell a 1000 1 0 1;program discharge 100 0");
            x.replace(0, charges[k]);
            x.start(0, 0);
            CHECK.same("ends when empty", x.advance(1), charges[k] <= 100 ? 1 : 0);
            CHECK.same("from " + charges[k], x.value(0, 4), currents[k]);
            CHECK.same("what is left", x.value(0, 6), charges[k] + currents[k]);
            CHECK.same("went out", x.ledger(0, 1), (long) -currents[k]);
            CHECK.same("went through", x.ledger(0, 2), (long) -currents[k]);
        }
        CellCycler least = Check.loaded(FLAT + "cell a 1000 1 0 1;program discharge 1 0");
        least.replace(0, 1);
        run(least, 0, 1);
        CHECK.same("the last unit", least.value(0, 4) * 10 + least.value(0, 6), -10);
        run(least, 0, 1);
        CHECK.same("no unit below it", least.value(0, 4) * 10 + least.value(0, 6), 0);
        CHECK.same("one went out", least.ledger(0, 1), 1L);
    }

    // ---- (2)

    private static int polarized(int polar, int tau, String step, int ticks) {
        return ran(FLAT + "limits 0 5000 1000;cell a 100000 1 " + polar + " " + tau + ";program " + step, ticks)
                .value(0, 8);
    }

    private static void polarizationBounds() {
        int[] currents = {9, 10, 1990, 2000, 3990, 4000, 5000};
        int[] goals = {0, 1, 1, 1, 1, 2, 2};
        for (int k = 0; k < currents.length; k++) {
            CHECK.same("TAU 200, charge " + currents[k],
                    polarized(100, 200, "charge " + currents[k] + " 5000", 1), goals[k]);
            CHECK.same("TAU 200, discharge " + currents[k],
                    polarized(100, 200, "discharge " + currents[k] + " 0", 1), -goals[k]);
        }
        CHECK.same("TAU 1 at once", polarized(100, 1, "charge 5000 5000", 1), 500);
        CHECK.same("and it stays", polarized(100, 1, "charge 5000 5000", 2), 500);
        CHECK.same("POLAR 0", polarized(0, 1, "charge 5000 5000", 1), 0);
        CHECK.same("POLAR 500", polarized(500, 200, "charge 5000 5000", 1), 12);
        CHECK.same("POLAR 1, 999", polarized(1, 1, "charge 999 5000", 1), 0);
        CHECK.same("POLAR 1, 1000", polarized(1, 1, "charge 1000 5000", 1), 1);
        CHECK.same("POLAR 1, -999", polarized(1, 1, "discharge 999 0", 1), 0);
        CHECK.same("POLAR 1, -1000", polarized(1, 1, "discharge 1000 0", 1), -1);
        CHECK.same("POLAR 1, -1999", polarized(1, 1, "discharge 1999 0", 1), -1);
    }

    private static void lastUnitOfPolarization() {
        String text = FLAT + "cell a 100000 1 1 200;program charge 2000 5000;program discharge 2000 0;"
                + "program rest 5000";
        CellCycler x = ran(text, 1);
        CHECK.same("by 1", x.value(0, 8), 1);
        x.advance(1);
        CHECK.same("there", x.value(0, 8), 2);
        x.advance(5);
        CHECK.same("not beyond", x.value(0, 8), 2);
        run(x, 2, 1);
        CHECK.same("by 1 back", x.value(0, 8), 1);
        x.advance(1);
        CHECK.same("at 0", x.value(0, 8), 0);
        x.advance(5);
        CHECK.same("not below", x.value(0, 8), 0);
        run(x, 1, 1);
        CHECK.same("by 1 down", x.value(0, 8), -1);
        x.advance(5);
        CHECK.same("not beyond either", x.value(0, 8), -2);
        x.pause(0);
        x.advance(1);
        CHECK.same("by 1 up in a pause", x.value(0, 8), -1);
        run(x, 0, 1);
        CHECK.same("through 0", x.value(0, 8), 0);
        x.advance(1);
        CHECK.same("and on", x.value(0, 8), 1);
    }

    // ---- (3)

    private static void leftOver() {
        CellCycler x = ran("curve a 3000 3000;efficiency 999;cell a 1000 1 0 1;program charge 1 5000;"
                + "program discharge 1 0;program rest 9", 1);
        CHECK.same("999 thousandths are none", x.value(0, 6), 500);
        run(x, 1, 1);
        CHECK.same("a discharge is whole", x.value(0, 6), 499);
        run(x, 2, 9);
        run(x, 0, 1);
        CHECK.same("what was left over counts behind it", x.value(0, 6), 500);
        x.advance(997);
        CHECK.same("one a tick", x.value(0, 6), 1497);
        // 1000 sums of 999 make 999 in all, and nothing is left over then.
        x.advance(1);
        CHECK.same("999 of 1000", x.ledger(0, 0) * 10000 + x.value(0, 6), 10001498L);
        x.stop(0);
        x.replace(0, 500);
        run(x, 0, 1);
        CHECK.same("one", x.value(0, 6), 500);
        x.stop(0);
        x.replace(0, 500);
        run(x, 0, 1);
        CHECK.same("nothing is left over of a cell before", x.value(0, 6), 500);
    }

    private static void efficiencyBounds() {
        int[] efficiencies = {500, 990, 999, 1000};
        int[] charges = {50050, 50099, 50099, 50100};
        for (int k = 0; k < efficiencies.length; k++) {
            CellCycler x = ran("curve a 3000 3000;cell a 100000 1 0 1;program charge 100 5000;efficiency "
                    + efficiencies[k], 1);
            CHECK.same("100 with E " + efficiencies[k], x.value(0, 6), charges[k]);
            CHECK.same("all goes in", x.ledger(0, 0), 100L);
        }
    }

    private static void fullCells() {
        CellCycler x = ran("curve a 3000 3000;efficiency 999;cell a 100 1 0 1;program charge 150 5000;"
                + "program charge 1 5000;program discharge 10 0", 1);
        // 149850 thousandths are 149, and 850 are left over.
        CHECK.same("one less than twice", x.value(0, 6), 199);
        run(x, 1, 1);
        CHECK.same("twice", x.value(0, 6), 200);
        x.advance(1);
        CHECK.same("not more", x.value(0, 6), 200);
        CHECK.same("it went in all the same", x.ledger(0, 0), 152L);
        CHECK.same("and through", x.ledger(0, 2), 152L);
        CHECK.same("filling", x.filling(0), 2000);
        run(x, 2, 1);
        CHECK.same("ten less", x.value(0, 6), 190);
        run(x, 1, 1);
        // 850, 849, 848, then 999 + 848.
        CHECK.same("the remainder was left over even then", x.value(0, 6), 191);
    }

    private static void fullOfWornCell() {
        CellCycler x = ran("curve a 3000 3000;efficiency 1000;fade 100;heat 10000 0;cell a 100 1 0 1;"
                + "program charge 5000 5000", 1);
        CHECK.same("capacity", x.value(0, 7), 50);
        CHECK.same("twice CAPACITY, not twice the present one", x.value(0, 6), 200);
        CHECK.same("filling", x.filling(0), 4000);
        CHECK.same("still band 9", x.ticksIn(0, 9), 1);
    }

    // ---- (4)

    private static void fadeBounds() {
        String text = FLAT + "cell a 1000 1 0 1;fade 100;program ";
        String[] steps = {"charge 99 5000", "charge 100 5000", "charge 101 5000", "discharge 99 0",
            "discharge 100 0", "discharge 101 0", "charge 199 5000", "charge 200 5000", "discharge 200 0", "rest 9"};
        int[] capacities = {1000, 999, 999, 1000, 999, 999, 999, 998, 998, 1000};
        long[] through = {99, 0, 1, 99, 0, 1, 99, 0, 0, 0};
        for (int k = 0; k < steps.length; k++) {
            CellCycler x = ran(text + steps[k], 1);
            CHECK.same("capacity after " + steps[k], x.value(0, 7), capacities[k]);
            CHECK.same("through after " + steps[k], x.ledger(0, 2), through[k]);
        }
        CellCycler both = ran(text + "charge 60 5000;program discharge 40 0", 1);
        run(both, 1, 1);
        CHECK.same("both ways make FADE", both.value(0, 7), 999);
        CHECK.same("nothing is left", both.ledger(0, 2), 0L);
    }

    private static void fadeOfMillion() {
        CellCycler x = ran(FLAT + "cell a 1000 1 0 1;fade 1000000;program charge 5000 5000", 199);
        CHECK.same("not yet", x.value(0, 7), 1000);
        CHECK.same("995000 went through", x.ledger(0, 2), 995000L);
        x.advance(1);
        CHECK.same("1 less", x.value(0, 7), 999);
        CHECK.same("none now", x.ledger(0, 2), 0L);
        CellCycler usual = ran(FLAT + "cell a 1000 1 0 1;program charge 5000 5000", 19);
        CHECK.same("without fade not yet", usual.value(0, 7), 1000);
        usual.advance(1);
        CHECK.same("100000 make it 1 less", usual.value(0, 7), 999);
    }

    private static void leastCapacity() {
        int[] capacities = {100, 101, 149, 150};
        int[] least = {50, 51, 99, 100};
        int[] then = {50, 50, 74, 75};
        for (int k = 0; k < capacities.length; k++) {
            CellCycler x = ran(FLAT + "fade 100;program charge 5000 5000;cell a " + capacities[k] + " 1 0 1", 1);
            CHECK.same("50 less than " + capacities[k], x.value(0, 7), least[k]);
            x.advance(1);
            CHECK.same("half of it, not less", x.value(0, 7), then[k]);
            CHECK.same("FADE are taken still", x.ledger(0, 2), 0L);
            x.advance(3);
            CHECK.same("it stays", x.value(0, 7), then[k]);
        }
        CellCycler x = ran(FLAT + "fade 3000;program charge 5000 5000;cell a 100 1 0 1", 30);
        CHECK.same("150000 went through", x.value(0, 7), 50);
        x.advance(1);
        CHECK.same("of 155000 FADE were taken at the least capacity too", x.ledger(0, 2), 2000L);
        CHECK.same("the least", x.value(0, 7), 50);
    }

    private static void wornInSameTick() {
        CellCycler x = ran(SLOPE + "cell a 1000 1 0 1;fade 100;program charge 250 5000", 1);
        // The charge is 750, the capacity 998: 3000 + 750000 / 998, where 1000 would be 3750.
        CHECK.same("voltage", x.value(0, 5), 3751);
        CHECK.same("filling", x.filling(0), 751);
        CellCycler band = Check.loaded(SLOPE + "cell a 1000 1 0 1;fade 100;program charge 200 5000");
        band.replace(0, 699);
        run(band, 0, 1);
        CHECK.same("899 of 998", band.filling(0), 900);
        CHECK.same("is in band 9", band.ticksIn(0, 9), 1);
    }

    // ---- (5)

    private static int warmed(String settings, int ohms, String step, int ticks) {
        return ran("curve a 3000 3000;limits 0 5000 1000;" + settings + ";cell a 100000 " + ohms
                + " 0 1;program " + step, ticks).value(0, 9);
    }

    private static void heatIsTruncated() {
        // i * i / 1000 is cut before it is multiplied by R, and cut again behind it.
        int[] currents = {31, 32, 44, 45, 63, 64, 1000, 5000};
        int[] warmer = {0, 0, 0, 1, 1, 2, 500, 12500};
        for (int k = 0; k < currents.length; k++) {
            CHECK.same("charge " + currents[k],
                    warmed("heat 1 0", 500, "charge " + currents[k] + " 5000", 1), 250 + warmer[k]);
            CHECK.same("discharge " + currents[k],
                    warmed("heat 1 0", 500, "discharge " + currents[k] + " 0", 1), 250 + warmer[k]);
        }
        CHECK.same("R 1", warmed("heat 1 0", 1, "charge 1000 5000", 1), 251);
        CHECK.same("999 is less", warmed("heat 1 0", 1, "charge 999 5000", 1), 250);
    }

    private static void heatBounds() {
        CHECK.same("HEAT 7, 7 a tick", warmed("heat 7 0", 7, "charge 1000 5000", 1), 251);
        CHECK.same("HEAT 8", warmed("heat 8 0", 7, "charge 1000 5000", 1), 250);
        CHECK.same("the remainder is kept", warmed("heat 8 0", 7, "charge 1000 5000", 2), 251);
        CHECK.same("49 of 8", warmed("heat 8 0", 7, "charge 1000 5000", 7), 256);
        CHECK.same("56 of 8", warmed("heat 8 0", 7, "charge 1000 5000", 8), 257);
        CHECK.same("HEAT 10000", warmed("heat 10000 0", 500, "charge 1000 5000", 19), 250);
        CHECK.same("20 times 500", warmed("heat 10000 0", 500, "charge 1000 5000", 20), 251);
        CHECK.same("HEAT 1, COOL 1: warm by 7", warmed("heat 1 1", 7, "charge 1000 5000", 1), 257);
        CHECK.same("and as warm", warmed("heat 1 1", 7, "charge 1000 5000", 2), 257);
        // Warm by 7, then 7 - 7 * 2 / 2.
        CHECK.same("HEAT 2, COOL 2", warmed("heat 2 2", 14, "charge 1000 5000", 5), 257);
        CHECK.same("COOL 0 cools never", warmed("heat 1 0", 7, "charge 1000 5000", 9), 313);
    }

    private static void coolingToAmbient() {
        CellCycler x = Check.loaded(FLAT + "heat 100 100;cell a 1000 1 0 1");
        x.setAmbient(0);
        CHECK.same("not before a tick", x.value(0, 9), 250);
        x.advance(1);
        CHECK.same("at once", x.value(0, 9), 0);
        x.setAmbient(500);
        x.advance(1);
        CHECK.same("up too", x.value(0, 9), 500);
        CellCycler slow = Check.loaded(FLAT + "heat 10 4;cell a 1000 1 0 1");
        slow.setAmbient(249);
        int[] down = {250, 250, 249, 249, 249};
        for (int t : down) {
            slow.advance(1);
            // The heat is -4, -8, -12: then -2 is left, which stays.
            CHECK.same("a negative remainder", slow.value(0, 9), t);
        }
        slow.setAmbient(250);
        int[] up = {249, 249, 250, 250};
        for (int t : up) {
            slow.advance(1);
            // From -2 it is 2, 6, 10: with its sign the remainder delays the way back.
            CHECK.same("has its sign", slow.value(0, 9), t);
        }
        CellCycler never = Check.loaded(FLAT + "heat 1 0;cell a 1000 1 0 1");
        never.setAmbient(500);
        never.advance(5000);
        CHECK.same("COOL 0", never.value(0, 9), 250);
    }

    private static void heatOfNewCell() {
        CellCycler x = ran("curve a 3000 3000;heat 8 0;cell a 100000 7 0 1;program charge 1000 5000", 1);
        CHECK.same("7 of 8", x.value(0, 9), 250);
        x.stop(0);
        x.replace(0, 5);
        run(x, 0, 1);
        CHECK.same("a new cell has no heat", x.value(0, 9), 250);
        x.stop(0);
        x.setAmbient(77);
        x.replace(0, 5);
        CHECK.same("but the ambient temperature now", x.value(0, 9), 77);
    }

    // ---- (6)

    private static void energyOfNegativeVoltage() {
        CellCycler x = ran("curve a 0 0;cell a 100000 100 0 1;program discharge 1000 0;program charge 1000 5000", 1);
        CHECK.same("voltage", x.value(0, 5), -100);
        CHECK.same("it trips", x.value(0, 10), 2);
        CHECK.same("less than nothing went out", x.ledger(0, 4), -100000L);
        CHECK.same("power", x.power(0), 100);
        CHECK.same("no energy went in", x.energyEfficiency(0), 0.0);
        run(x, 1, 1);
        CHECK.same("energy in", x.ledger(0, 3), 100000L);
        CHECK.same("efficiency", x.energyEfficiency(0), -1.0);
        // The polarization is -12 behind the discharge, and -11 in the tick that charges.
        CellCycler y = ran("curve a 0 0;cell a 100000 1 500 200;program discharge 5000 0;program charge 1 5000", 1);
        CHECK.same("polarization", y.value(0, 8), -12);
        CHECK.same("voltage", y.value(0, 5), -17);
        run(y, 1, 1);
        CHECK.same("charged below 0", y.ledger(0, 3), -11L);
        CHECK.same("efficiency", y.energyEfficiency(0), -85000.0 / -11.0);
    }

    private static void noEnergy() {
        CellCycler x = ran("curve a 0 0;cell a 1000 1 0 1;program charge 1 5000;program discharge 500 0;"
                + "program rest 9", 1);
        CHECK.same("charge went in", x.ledger(0, 0), 1L);
        CHECK.same("without energy", x.ledger(0, 3), 0L);
        CHECK.same("none went in", x.energyEfficiency(0), 0.0);
        CHECK.same("nor charge out", x.chargeEfficiency(0), 0.0f);
        run(x, 2, 1);
        CHECK.same("a rest moves nothing", x.ledger(0, 0) + x.ledger(0, 1) + x.ledger(0, 3) + x.ledger(0, 4), 1L);
        run(x, 1, 1);
        CHECK.same("500 went out of 1", x.chargeEfficiency(0), 500.0f);
        CHECK.same("energy out of none", x.energyEfficiency(0), 0.0);
    }

    private static void efficienciesAreRounded() {
        // (float) 16777217 is 16777216, so that the quotient of the floats is not that of the numbers.
        CellCycler x = ran(FLAT + "cell a 100000 1 0 1;program charge 4999 5000;program charge 573 5000;"
                + "program discharge 7 0", 3356);
        run(x, 1, 1);
        CHECK.same("went in", x.ledger(0, 0), 16777217L);
        run(x, 2, 1);
        CHECK.same("as floats", x.chargeEfficiency(0), 7f / 16777216f);
        CHECK.same("as doubles", x.energyEfficiency(0), (double) x.ledger(0, 4) / (double) x.ledger(0, 3));
        CHECK.same("energy out", x.ledger(0, 4), 7L * 3000);
        CHECK.same("energy in", x.ledger(0, 3), 3356L * 4999 * 3004 + 573L * 3000);
    }

    private static void powerIsTruncated() {
        String cell = "curve a 999 999;cell a 1000 1 0 1;program ";
        CHECK.same("999 / 1000", ran(cell + "charge 1 5000", 1).power(0), 0);
        CHECK.same("-999 / 1000", ran(cell + "discharge 1 0", 1).power(0), 0);
        CHECK.same("1998 / 1000", ran(cell + "charge 2 5000", 1).power(0), 1);
        CHECK.same("-1998 / 1000", ran(cell + "discharge 2 0", 1).power(0), -1);
        CHECK.same("no current", ran(cell + "rest 9", 1).power(0), 0);
        CHECK.same("before the first tick", Check.loaded(cell + "rest 9").power(0), 0);
        CellCycler great = ran("curve a 0 0 0 0 0 0 0 0 0 0 5000;efficiency 1000;fade 100;heat 10000 0;"
                + "cell a 100 500 500 1;program charge 5000 5000", 1);
        // 5000 * (20 * 100 - 9 * 50) / 50 at the end of the curve, 2500 by R and 2500 by the polarization.
        CHECK.same("a great voltage", great.value(0, 5), 160000);
        CHECK.same("a great power", great.power(0), 800000);
        CHECK.same("a great energy", great.ledger(0, 3), 800000000L);
    }

    // ---- (7)

    private static void bandBounds() {
        for (int band = 0; band < 10; band++) {
            CellCycler x = Check.loaded(FLAT + "cell a 1000 1 0 1");
            x.replace(0, 100 * band);
            x.advance(1);
            CHECK.same("at " + 100 * band, x.ticksIn(0, band), 1);
            x.replace(0, 100 * band + 99);
            x.advance(1);
            CHECK.same("at " + (100 * band + 99), x.ticksIn(0, band), 1);
        }
        CellCycler full = Check.loaded(FLAT + "cell a 1000 1 0 1;program charge 1 5000;program charge 999 5000");
        full.replace(0, 1000);
        full.advance(1);
        CHECK.same("1000 is in the last one", full.ticksIn(0, 9), 1);
        run(full, 0, 1);
        CHECK.same("1001 too", full.ticksIn(0, 9), 2);
        run(full, 1, 1);
        CHECK.same("and 2000", full.ticksIn(0, 9), 3);
    }

    private static void bandsInEveryState() {
        CellCycler x = Check.loaded(FLAT + "cell a 1000 1 0 1;program rest 2;program rest 50");
        x.advance(3);
        CHECK.same("idle", x.ticksIn(0, 5), 3);
        run(x, 0, 2);
        CHECK.same("running", x.ticksIn(0, 5), 5);
        x.advance(4);
        CHECK.same("done", x.ticksIn(0, 5), 9);
        run(x, 1, 1);
        x.pause(0);
        x.advance(5);
        CHECK.same("paused", x.ticksIn(0, 5), 15);
        x.resume(0);
        x.setLimits(0, 0);
        x.advance(1);
        CHECK.same("the tick that trips", x.ticksIn(0, 5), 16);
        x.advance(6);
        CHECK.same("tripped", x.ticksIn(0, 5), 22);
        int all = 0;
        for (int band = 0; band < 10; band++) {
            all += x.ticksIn(0, band);
        }
        CHECK.same("each tick once", all, x.now());
        x.stop(0);
        x.replace(0, 500);
        CHECK.same("none of a new cell", x.ticksIn(0, 5), 0);
    }

    private static void bandBehindTheTick() {
        CellCycler x = Check.loaded(FLAT + "cell a 1000 1 0 1;program charge 1 5000;program discharge 1 0");
        x.replace(0, 599);
        run(x, 0, 1);
        CHECK.same("600 behind it", x.ticksIn(0, 6) * 10 + x.ticksIn(0, 5), 10);
        run(x, 1, 1);
        CHECK.same("599 behind it", x.ticksIn(0, 6) * 10 + x.ticksIn(0, 5), 11);
    }

    private static void resistanceAtFirstTicks() {
        // The rest voltage is 3500 at first; R is 100.
        CellCycler x = Check.loaded(SLOPE + "cell a 1000 100 0 1;program rest 2 rest 2 charge 100 5000 rest 9");
        x.start(0, 0);
        x.advance(4);
        CHECK.same("rest and rest have one current", x.internalResistance(0), -1);
        x.pause(0);
        x.advance(3);
        x.resume(0);
        x.advance(1);
        CHECK.same("the first tick of charge", x.internalResistance(0), 1100);
        x.advance(1);
        x.pause(0);
        x.advance(1);
        CHECK.same("a pause is no step", x.internalResistance(0), 1100);
        x.resume(0);
        x.advance(1);
        CHECK.same("nor is its end", x.internalResistance(0), 1100);
        x.skip(0);
        x.pause(0);
        x.advance(1);
        x.resume(0);
        x.advance(1);
        CHECK.same("the step before it had 0 in the pause", x.internalResistance(0), 1100);
    }

    private static void resistanceBehindPause() {
        CellCycler x = Check.loaded(SLOPE + "cell a 1000 100 0 1;program charge 100 5000;program charge 200 5000");
        x.start(0, 0);
        x.pause(0);
        x.advance(2);
        CHECK.same("not in a pause", x.internalResistance(0), -1);
        x.resume(0);
        x.advance(1);
        CHECK.same("the first tick of the step comes behind it", x.internalResistance(0), 1100);
        x.stop(0);
        x.start(0, 0);
        x.advance(1);
        CHECK.same("with the same current there is none", x.internalResistance(0), 1100);
        run(x, 1, 1);
        // From 3710 to 3920 with 100 more.
        CHECK.same("100 to 200", x.internalResistance(0), 2100);
        x.stop(0);
        x.replace(0, 500);
        CHECK.same("none of a new cell", x.internalResistance(0), -1);
    }

    private static void resistanceOfHold() {
        // The rest voltage is 3500 at first: i is 1000, and 3510 is left behind it.
        CellCycler x = ran(SLOPE + "cell a 100000 100 0 1;program hold 3600 10", 1);
        CHECK.same("the first current", x.value(0, 4), 1000);
        CHECK.same("3610 by 1000", x.internalResistance(0), 3610);
        x.advance(1);
        CHECK.same("the second current", x.value(0, 4), 900);
        CHECK.same("is not measured", x.internalResistance(0), 3610);
        x.pause(0);
        x.advance(1);
        x.resume(0);
        x.advance(1);
        CHECK.same("the current behind a pause", x.value(0, 4), 810);
        CHECK.same("is not measured either", x.internalResistance(0), 3610);
    }

    private static void resistanceSigns() {
        CellCycler x = ran(FLAT + "cell a 100000 100 0 1;program discharge 7 0;program charge 7 5000", 1);
        // 3000 * 1000 / -7, cut toward 0.
        CHECK.same("before the first tick all is 0", x.internalResistance(0), -428571);
        run(x, 1, 1);
        CHECK.same("a difference of 0", x.internalResistance(0), 0);
        CellCycler y = ran(FLAT + "cell a 100000 150 0 1;program charge 7 5000;program rest 9", 1);
        CHECK.same("3001 by 7", y.internalResistance(0), 428714);
        run(y, 1, 1);
        // -1 * 1000 / -7.
        CHECK.same("both less", y.internalResistance(0), 142);
    }

    private static void resistanceInTripTick() {
        CellCycler x = Check.loaded(SLOPE + "cell a 1000 100 0 1;limits 0 3600 600;program charge 100 5000");
        x.advance(1);
        run(x, 0, 1);
        CHECK.same("it trips", x.value(0, 10), 1);
        CHECK.same("and is measured", x.internalResistance(0), 1100);
        x.advance(1);
        CHECK.same("not when it is tripped", x.internalResistance(0), 1100);
        CellCycler back = Check.loaded(SLOPE + "cell a 1000 100 0 1;program charge 100 3000 repeat 0 1 rest 9");
        back.start(0, 0);
        back.advance(2);
        CHECK.same("a repeat leaves the same current", back.internalResistance(0), 36100);
        back.advance(1);
        // From 3710 to 3700 with 100 less.
        CHECK.same("behind it", back.internalResistance(0), 100);
    }

    private static void warningBounds() {
        for (int bound = 3499; bound <= 3501; bound++) {
            String cell = SLOPE + "cell a 1000 1 0 1;program rest 9;warn ";
            CHECK.same("3500 with HIGH " + bound, ran(cell + "0 " + bound + " 1000", 1).warned(0),
                    bound < 3500 ? 1 : 0);
            CHECK.same("3500 with LOW " + bound, ran(cell + bound + " 5000 1000", 1).warned(0),
                    bound > 3500 ? 2 : 0);
        }
        for (int hot = 249; hot <= 251; hot++) {
            CHECK.same("250 with HOT " + hot,
                    ran(SLOPE + "cell a 1000 1 0 1;program rest 9;warn 0 5000 " + hot, 1).warned(0), hot < 250 ? 3 : 0);
        }
        String hot = SLOPE + "cell a 1000 1 0 1;program rest 9;warn ";
        CHECK.same("1 before 3", ran(hot + "0 3499 249", 1).warned(0), 1);
        CHECK.same("2 before 3", ran(hot + "3501 5000 249", 1).warned(0), 2);
        CHECK.same("3 alone", ran(hot + "3500 3500 249", 1).warned(0), 3);
        CHECK.same("warn 0 0 0", ran(hot + "0 0 0", 1).warned(0), 1);
        CHECK.same("HOT 0 at 0", ran(hot + "0 5000 0;ambient 0", 1).warned(0), 0);
        CHECK.same("before the first tick", Check.loaded(hot + "0 0 0").warned(0), 0);
    }

    private static void sameReasonOnce() {
        CellCycler x = Check.loaded(SLOPE + "cell a 1000 1 0 1;program rest 1 rest 2;program rest 9;"
                + "warn 0 3499 1000");
        x.start(0, 0);
        x.advance(3);
        CHECK.same("in two steps", x.warnings(0), 1);
        CHECK.same("it was in the latest tick", x.warned(0), 1);
        x.start(0, 1);
        x.advance(1);
        CHECK.same("nor for another program at once", x.warnings(0), 1);
        x.stop(0);
        x.start(0, 1);
        x.advance(1);
        CHECK.same("nor behind a stop without a tick", x.warnings(0), 1);
        x.pause(0);
        x.resume(0);
        x.advance(1);
        CHECK.same("nor behind a pause without a tick", x.warnings(0), 1);
        x.pause(0);
        x.advance(1);
        CHECK.same("not in a pause", x.warned(0), 0);
        x.resume(0);
        x.advance(1);
        CHECK.same("but behind a tick of it", x.warnings(0), 2);
        x.stop(0);
        x.advance(1);
        run(x, 1, 1);
        CHECK.same("and behind an idle tick", x.warnings(0), 3);
        CHECK.same("as the log tells", x.eventsOf(0, 4), 3);
        x.stop(0);
        x.replace(0, 500);
        run(x, 1, 1);
        CHECK.same("a new cell was not warned before", x.warnings(0), 1);
        CHECK.same("so it is in the log", x.eventsOf(0, 4), 4);
    }

    private static void reasonsInTurn() {
        // Charging with 100 the voltages are 3600, 3700, 3800 from 500 on, discharging they fall.
        CellCycler x = Check.loaded(SLOPE + "cell a 1000 1 0 1;warn 3600 3700 1000;program charge 100 5000;"
                + "program discharge 100 0");
        run(x, 1, 1);
        CHECK.same("400 is low", x.warned(0), 2);
        run(x, 0, 2);
        CHECK.same("500 still, 600 not", x.warned(0), 0);
        CHECK.same("one warning", x.warnings(0), 1);
        run(x, 1, 1);
        CHECK.same("low again counts again", x.warnings(0), 2);
        run(x, 0, 3);
        CHECK.same("high counts too", x.warnings(0) * 10 + x.warned(0), 31);
        x.advance(2);
        CHECK.same("not again", x.warnings(0), 3);
        CHECK.same("its number", x.logEntry(x.logSize() - 1, 3), 1);
        CHECK.same("the time of the first", x.logEntry(x.logSize() - 1, 0), 7);
    }

    private static void warningBeforeTheEnd() {
        CellCycler x = ran(SLOPE + "cell a 1000 1 0 1;warn 0 3499 1000;program rest 1", 1);
        int[] events = {0, 4, 1, 2};
        for (int k = 0; k < events.length; k++) {
            CHECK.same("entry " + k, x.logEntry(k, 2), events[k]);
        }
        CHECK.same("warned in the tick that ended all", x.warned(0), 1);
        x.advance(1);
        CHECK.same("done is not warned", x.warned(0), 0);
        CHECK.same("one warning", x.warnings(0), 1);
    }

    // ---- promises 25 to 42

    private static void valuesInStates() {
        CellCycler x = Check.loaded(SLOPE + "cell a 1000 100 0 1;program rest 1 rest 5;program rest 2");
        int[][] due = {{0, -1, -1, 0}, {1, 0, 0, 0}, {1, 0, 1, 2}, {2, 0, 1, 2}, {0, 0, -1, 0}, {1, 1, 0, 1},
            {3, 1, -1, 0}, {4, 0, 0, 1}, {0, -1, -1, 0}};
        same(x, due[0]);
        x.start(0, 0);
        same(x, due[1]);
        x.advance(3);
        same(x, due[2]);
        x.pause(0);
        x.advance(2);
        same(x, due[3]);
        x.stop(0);
        same(x, due[4]);
        run(x, 1, 1);
        same(x, due[5]);
        x.advance(1);
        same(x, due[6]);
        x.setLimits(0, 0);
        run(x, 0, 1);
        same(x, due[7]);
        x.stop(0);
        x.replace(0, 0);
        same(x, due[8]);
    }

    private static void same(CellCycler x, int[] due) {
        for (int what = 0; what < due.length; what++) {
            CHECK.same("value " + what + " at " + x.now(), x.value(0, what), due[what]);
        }
    }

    private static void beforeFirstTick() {
        CellCycler x = Check.loaded(SLOPE + "cell a 1000 100 500 1;program charge 1000 5000");
        x.start(0, 0);
        CHECK.same("current", x.value(0, 4), 0);
        CHECK.same("voltage", x.value(0, 5), 0);
        x.advance(1);
        x.stop(0);
        CHECK.same("of the latest tick", x.value(0, 5) * 10000 + x.value(0, 4), 51000000 + 1000);
        x.replace(0, 500);
        CHECK.same("a new cell has had none", x.value(0, 5) * 10000 + x.value(0, 4), 0);
        CHECK.same("nor a polarization", x.value(0, 8), 0);
        x.advance(1);
        CHECK.same("voltage of an idle one", x.value(0, 5), 3500);
    }

    /** Section 2, for a curve given as text. */
    private static long rest(String curve, long capacity, long charge) {
        String[] voltages = curve.split(" ");
        int pieces = voltages.length - 1;
        int k = (int) Math.min(charge * pieces / capacity, pieces - 1);
        long from = Long.parseLong(voltages[k]);
        long to = Long.parseLong(voltages[k + 1]);
        return from + (to - from) * (charge * pieces - k * capacity) / capacity;
    }

    /** The charges for voltages, looked for one by one. */
    private static void chargesFor(CellCycler x, String curve) {
        int capacity = x.value(0, 7);
        int charge = 0;
        for (int voltage = 0; voltage <= 5000; voltage += 25) {
            for (int one = Math.max(0, voltage - 1); one <= Math.min(5000, voltage); one++) {
                while (charge <= capacity && rest(curve, capacity, charge) < one) {
                    charge++;
                }
                CHECK.same("charge for " + one, x.chargeFor(0, one), charge > capacity ? -1 : charge);
            }
        }
    }

    private static void chargesForVoltages() {
        String[] curves = {"0 5000", "3000 3000 3000", "5 5 900 900 900 4000 4000", "0 0", "5000 5000",
            "0 1 2 3 4 5 6 7 8 9 5000", "3000 3300 3500 3600 3650 3700 3750 3850 4000 4150 4200"};
        for (String curve : curves) {
            for (int capacity : new int[] {100, 101, 1000, 1237}) {
                String text = "curve a " + curve + ";fade 100;limits 0 5000 1000;cell a " + capacity
                        + " 1 0 1;program charge 3700 5000";
                chargesFor(Check.loaded(text), curve);
                chargesFor(ran(text, 1), curve);
            }
        }
        CellCycler x = Check.loaded(SLOPE + "cell a 1000 1 0 1");
        CHECK.same("the present capacity itself", x.chargeFor(0, 4000), 1000);
        CHECK.same("one more would need one more", x.restVoltage(0, 1001), 4001);
        CHECK.same("so there is none", x.chargeFor(0, 4001), -1);
        CHECK.same("one less", x.chargeFor(0, 3999), 999);
        CHECK.same("the first voltage", x.chargeFor(0, 3000), 0);
        CHECK.same("above it", x.chargeFor(0, 3001), 1);
    }

    private static void fillingBounds() {
        CellCycler x = Check.loaded(FLAT + "cell a 1001 1 0 1");
        int[] charges = {0, 1, 2, 500, 999, 1000, 1001};
        int[] fillings = {0, 0, 1, 499, 998, 999, 1000};
        for (int k = 0; k < charges.length; k++) {
            x.replace(0, charges[k]);
            CHECK.same("filling at " + charges[k], x.filling(0), fillings[k]);
        }
        CellCycler big = ran(FLAT + "cell a 100000 1 0 1;program charge 5000 5000", 40);
        CHECK.same("a full one is over full twice", big.filling(0), 2000);
    }

    private static void ledgersOfNewCell() {
        CellCycler x = ran(SLOPE + "cell a 1000 1 0 1;program charge 100 5000;program discharge 100 0", 1);
        run(x, 1, 1);
        long[] due = {100, 100, 200, 360000, 350000};
        for (int what = 0; what < 5; what++) {
            CHECK.same("ledger " + what, x.ledger(0, what), due[what]);
        }
        x.stop(0);
        CHECK.same("stay", x.ledger(0, 0), 100L);
        x.replace(0, 500);
        for (int what = 0; what < 5; what++) {
            CHECK.same("new ledger " + what, x.ledger(0, what), 0L);
        }
        CHECK.same("efficiency of none", x.chargeEfficiency(0), 0.0f);
        CHECK.same("and of no energy", x.energyEfficiency(0), 0.0);
    }

    private static void restsThatDoNotMeasure() {
        CellCycler x = Check.loaded(SLOPE + "cell a 1000 1 0 1;program rest 1;program rest 3 rest 3;"
                + "program charge 100 3000 hold 3000 1;program discharge 1 5000");
        CHECK.same("none", x.measuredRest(0), -1);
        run(x, 3, 1);
        CHECK.same("a discharge that ends", x.measuredRest(0) * 10 + x.recordCount(), -9);
        run(x, 1, 2);
        x.skip(0);
        CHECK.same("skipped", x.measuredRest(0), -1);
        x.stop(0);
        CHECK.same("stopped", x.measuredRest(0), -1);
        run(x, 2, 9);
        CHECK.same("of other steps", x.measuredRest(0), -1);
        run(x, 0, 1);
        CHECK.same("one that ended", x.measuredRest(0), 3599);
        x.setLimits(0, 0);
        run(x, 0, 1);
        CHECK.same("one that trips does not end", x.value(0, 0), 4);
        CHECK.same("stays", x.measuredRest(0), 3599);
        x.stop(0);
        x.replace(0, 500);
        CHECK.same("of another cell", x.measuredRest(0), -1);
    }

    private static void inEachState() {
        StringBuilder text = new StringBuilder(FLAT + "program rest 1;program rest 99");
        for (int k = 0; k < 6; k++) {
            text.append(";cell a 1000 1 0 1");
        }
        CellCycler x = Check.loaded(text.toString());
        states(x, 63, 0, 0, 0, 0);
        x.start(0, 0);
        x.advance(1);
        states(x, 62, 0, 0, 1, 0);
        x.start(5, 1);
        x.start(4, 1);
        x.pause(4);
        states(x, 14, 32, 16, 1, 0);
        x.setLimits(0, 0);
        x.advance(1);
        states(x, 14, 0, 16, 1, 32);
    }

    private static void states(CellCycler x, int... due) {
        for (int state = 0; state < 5; state++) {
            CHECK.same("in state " + state, x.inState(state), due[state]);
        }
    }

    private static void weakestOfEquals() {
        CellCycler x = Check.loaded(FLAT + "fade 100;limits 0 5000 1000;cell a 100000 1 0 1;cell a 2000 1 0 1;"
                + "cell a 1001 1 0 1;program charge 100 5000 rest 9");
        CHECK.same("all are whole", x.weakest(), 0);
        x.start(2, 0);
        x.advance(1);
        // 1000 of 1001 is 999 thousandths.
        CHECK.same("the last one", x.weakest(), 2);
        x.start(1, 0);
        x.advance(1);
        // 1999 of 2000 is 999 too; the last one has 999 of 1001, which is 998.
        CHECK.same("still", x.weakest(), 2);
        x.stop(2);
        x.replace(2, 0);
        CHECK.same("the one in the middle", x.weakest(), 1);
        x.start(0, 0);
        x.advance(1);
        // 99999 of 100000 and 1998 of 2000 are both 999 thousandths.
        CHECK.same("the smallest of equals", x.weakest(), 0);
        x.advance(1);
        CHECK.same("998 of 2000", x.weakest(), 1);
        CellCycler worn = Check.loaded(FLAT + "fade 100;cell a 10000 1 0 1;cell a 10000 1 0 1;program charge 5000 5000;"
                + "program charge 4500 5000;program charge 100 5000");
        worn.start(0, 0);
        worn.start(1, 0);
        worn.advance(89);
        run(worn, 1, 1);
        worn.stop(0);
        CHECK.same("5505 of 10000", worn.value(0, 7), 5505);
        CHECK.same("5500", worn.value(1, 7), 5500);
        CHECK.same("are 550 thousandths both", worn.weakest(), 0);
        worn.stop(1);
        worn.start(1, 2);
        worn.advance(1);
        CHECK.same("5499", worn.value(1, 7), 5499);
        CHECK.same("are 549", worn.weakest(), 1);
    }

    private static void hottestOfEquals() {
        CellCycler x = Check.loaded("curve a 3000 3000;heat 1 0;cell a 1000 1 0 1;cell a 1000 1 0 1;cell a 1000 1 0 1;"
                + "program charge 1000 5000 rest 9;ambient 0");
        CHECK.same("all are the same", x.hottest(), 0);
        x.start(2, 0);
        x.advance(1);
        CHECK.same("the last one", x.hottest(), 2);
        x.stop(2);
        x.start(1, 0);
        x.advance(1);
        CHECK.same("the smallest of two", x.hottest(), 1);
        x.stop(1);
        x.start(0, 0);
        x.advance(1);
        CHECK.same("the smallest of three", x.hottest(), 0);
        x.advance(1);
        x.stop(0);
        x.replace(0, 0);
        CHECK.same("without it", x.hottest(), 1);
        CellCycler none = Check.loaded(FLAT + "program rest 1");
        CHECK.same("no channel", none.hottest(), -1);
        CHECK.same("none at all", none.weakest(), -1);
        CHECK.same("in no state", none.inState(0), 0);
    }

    public static void main(String[] args) {
        chargeAtFirst();
        lastPieceOfCurve();
        restVoltageIsTruncated();
        restVoltageOfWornCell();
        chargeRange();
        voltageIsTruncated();
        currentsOfSteps();
        holdBounds();
        holdWithPolarization();
        derateBounds();
        derateIsTruncated();
        derateOfOtherSteps();
        derateBeforeEmpty();
        notBelowEmpty();
        polarizationBounds();
        lastUnitOfPolarization();
        leftOver();
        efficiencyBounds();
        fullCells();
        fullOfWornCell();
        fadeBounds();
        fadeOfMillion();
        leastCapacity();
        wornInSameTick();
        heatIsTruncated();
        heatBounds();
        coolingToAmbient();
        heatOfNewCell();
        energyOfNegativeVoltage();
        noEnergy();
        efficienciesAreRounded();
        powerIsTruncated();
        bandBounds();
        bandsInEveryState();
        bandBehindTheTick();
        resistanceAtFirstTicks();
        resistanceBehindPause();
        resistanceOfHold();
        resistanceSigns();
        resistanceInTripTick();
        warningBounds();
        sameReasonOnce();
        reasonsInTurn();
        warningBeforeTheEnd();
        valuesInStates();
        beforeFirstTick();
        chargesForVoltages();
        fillingBounds();
        ledgersOfNewCell();
        restsThatDoNotMeasure();
        inEachState();
        weakestOfEquals();
        hottestOfEquals();
        CHECK.finish();
    }
}
