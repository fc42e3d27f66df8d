/** Promises 1 to 11: a new object, texts and their errors, the numbers of a description. */
public final class DescriptionTest {
    private static final Check CHECK = new Check();

    private static void newObject() {
        CellCycler x = new CellCycler();
        CHECK.same("new count(0)", x.count(0), 0);
        CHECK.same("new count(1)", x.count(1), 0);
        CHECK.same("new count(2)", x.count(2), 0);
        CHECK.same("new now", x.now(), 0);
        CHECK.same("new loadError", x.loadError(), 0);
        CHECK.same("new curveNamed", x.curveNamed(), -1);
        CHECK.same("new restore 0", x.restoreSnapshot(0), -1);
        CHECK.same("new restore 1", x.restoreSnapshot(1), -1);
        CHECK.same("new append(0)", x.append(0), 0);
        int[] defaults = {990, 100000, 100, 5, 0, 5000, 600, 250};
        for (int k = 0; k < 8; k++) {
            CHECK.same("new setting " + k, x.setting(k), defaults[k]);
        }
        CHECK.same("new setDerate", x.setDerate(0), 0);
        CHECK.same("advance without channels", x.advance(3), 0);
        CHECK.same("now without channels", x.now(), 3);
        CHECK.fails("value without channels", "index", () -> x.value(0, 0));
        CHECK.fails("stepValue without programs", "index", () -> x.stepValue(0, 0, 0));
    }

    private static void append() {
        CellCycler x = new CellCycler();
        CHECK.same("one byte", x.append(0x61L), 1);
        CHECK.same("zeros left out", x.append(0x6200_0000_0063_0000L), 3);
        CHECK.same("eight bytes", x.append(-1L), 11);
        CHECK.same("no byte", x.append(0), 11);
        CellCycler y = new CellCycler();
        Check.type(y, "curve abc 1 2");
        y.load();
        y.append(0x6100_6200_6300L);
        CHECK.same("order of bytes", y.curveNamed(), 0);
        for (int k = 0; k < 100; k++) {
            CHECK.same("fill", y.append(0x2020202020202020L), 8 * k + 8);
        }
        CHECK.same("full", y.append(0x20L), -2);
        CHECK.same("nothing more", y.append(0L), 800);
        CHECK.same("800 spaces", y.load(), -900);
        CHECK.same("emptied on error", y.append(0x20L), 1);
        for (int k = 0; k < 99; k++) {
            y.append(0x2020202020202020L);
        }
        CHECK.same("793 and 8", y.append(-1L), -2);
        CHECK.same("793 and 7", y.append(0x20202020202020L), 800);
    }

    private static void whereWordsStand() {
        CHECK.error("", 1, 0);
        CHECK.error("   ", 1, 3);
        CHECK.error("x", 1, 0);
        CHECK.error("  curves a 1 2", 1, 2);
        CHECK.error("Curve a 1 2", 1, 0);
        CHECK.error("5", 1, 0);
        CHECK.error(";", 1, 0);
        CHECK.error("ambient 5;", 1, 10);
        CHECK.error("ambient 5; ", 1, 11);
        CHECK.error("ambient 5;;ambient 5", 1, 10);
        CHECK.error("ambient", 1, 7);
        CHECK.error("ambient ", 1, 8);
        CHECK.error("ambient -5", 1, 8);
        CHECK.error("ambient five", 1, 8);
        CHECK.error("ambient 5 5", 1, 10);
        CHECK.error("ambient 5 rest", 1, 10);
        CHECK.error("ambient 5\n", 1, 9);
        CHECK.good("ambient 5 ; ambient 6  ", 0);
        CHECK.good("ambient5;ambient0006", 0);
        CHECK.error("curve 5 1 2", 1, 6);
        CHECK.error("curve", 1, 5);
        CHECK.error("curve a", 1, 7);
        CHECK.error("curve a 1", 1, 9);
        CHECK.error("curve a 1;", 1, 9);
        CHECK.error("curve a 1 2 b", 1, 12);
        CHECK.good("curve a 0 1 2 3 4 5 6 7 8 9 10", 0);
        CHECK.error("curve a 0 1 2 3 4 5 6 7 8 9 10 11", 1, 31);
        CHECK.error("curve a 0 1 2 3 4 5 6 7 8 9 10 99999", 1, 31);
        CHECK.error("program", 1, 7);
        CHECK.error("program;", 1, 7);
        CHECK.error("program 5", 1, 8);
        CHECK.error("program sleep 5", 1, 8);
        CHECK.error("program rest 5 sleep 5", 1, 15);
        CHECK.error("program rest 5 6", 1, 15);
        CHECK.error("program charge 5", 1, 16);
        CHECK.error("program charge 5 rest 5", 1, 17);
        String twelve = "program rest 1 rest 1 rest 1 rest 1 rest 1 rest 1"
                + " rest 1 rest 1 rest 1 rest 1 rest 1 rest 1";
        CHECK.good(twelve, 0);
        CHECK.error(twelve + " rest 9999", 1, 92);
        CHECK.error(twelve + " 7", 1, 92);
        CHECK.error("program repeat", 1, 14);
        String[] statements = {"curve a 1 2", "cell a 100 1 0 1", "program rest 1", "efficiency 500",
            "fade 100", "heat 1 0", "limits 0 1 250", "ambient 0", "warn 0 0 0", "derate 0"};
        for (String one : statements) {
            String last = "curve q 1 2;" + one.replace("cell a", "cell q");
            CHECK.good(last, one.startsWith("cell") ? 1 : 0);
            CHECK.error("x" + one.substring(1), 1, 0);
            CHECK.error(one.replaceFirst(" ", "x "), 1, 0);
            CHECK.error(one.replaceFirst(". ", " "), 1, 0);
        }
        for (String one : new String[] {"charge 1 1", "hold 1 1", "discharge 1 1", "rest 1", "repeat 0 1"}) {
            CHECK.good("program rest 1 " + one, 0);
            CHECK.error("program rest 1 x" + one.substring(1), 1, 15);
            CHECK.error("program rest 1 " + one.replaceFirst(" ", "x "), 1, 15);
            CHECK.error("program rest 1 " + one.replaceFirst(". ", " "), 1, 15);
        }
    }

    private static void ranges() {
        CHECK.error("ambient 501", 2, 8);
        CHECK.good("ambient 500", 0);
        CHECK.error("ambient 99999999999999999999999", 2, 8);
        CHECK.error("ambient 4294967296", 2, 8);
        CHECK.error("efficiency 499", 2, 11);
        CHECK.error("efficiency 1001", 2, 11);
        CHECK.good("efficiency 500;efficiency 1000", 0);
        CHECK.error("fade 99", 2, 5);
        CHECK.error("fade 1000001", 2, 5);
        CHECK.good("fade 100;fade 1000000", 0);
        CHECK.error("heat 0 0", 2, 5);
        CHECK.error("heat 10001 0", 2, 5);
        CHECK.error("heat 50 51", 2, 8);
        CHECK.error("heat 500 101", 2, 9);
        CHECK.good("heat 50 50;heat 500 100;heat 1 0", 0);
        CHECK.error("limits 5001 0 0", 2, 7);
        CHECK.error("limits 10 9 600", 2, 10);
        CHECK.error("limits 10 5001 600", 2, 10);
        CHECK.error("limits 10 10 249", 2, 13);
        CHECK.error("limits 10 10 1001", 2, 13);
        CHECK.good("limits 10 10 250;limits 0 5000 1000", 0);
        CHECK.error("warn 5001 0 0", 2, 5);
        CHECK.error("warn 10 9 600", 2, 8);
        CHECK.error("warn 10 5001 600", 2, 8);
        CHECK.error("warn 10 10 1001", 2, 11);
        CHECK.good("warn 10 10 0;warn 0 5000 1000", 0);
        CHECK.error("derate 201", 2, 7);
        CHECK.good("derate 200", 0);
        CHECK.error("curve a 5001 1", 2, 8);
        CHECK.error("curve a 7 6", 2, 10);
        CHECK.error("curve a 7 7 7 6", 2, 14);
        CHECK.good("curve a 0 0 5000 5000", 0);
        String curve = "curve a 1 2;";
        CHECK.error(curve + "cell a 99 1 0 1", 2, 19);
        CHECK.error(curve + "cell a 100001 1 0 1", 2, 19);
        CHECK.error(curve + "cell a 100 0 0 1", 2, 23);
        CHECK.error(curve + "cell a 100 501 0 1", 2, 23);
        CHECK.error(curve + "cell a 100 1 501 1", 2, 25);
        CHECK.error(curve + "cell a 100 1 0 0", 2, 27);
        CHECK.error(curve + "cell a 100 1 0 201", 2, 27);
        CHECK.good(curve + "cell a 100 1 0 1;cell a 100000 500 500 200", 2);
        CHECK.error("program charge 0 1", 2, 15);
        CHECK.error("program charge 5001 1", 2, 15);
        CHECK.error("program charge 1 5001", 2, 17);
        CHECK.error("program hold 5001 1", 2, 13);
        CHECK.error("program hold 0 0", 2, 15);
        CHECK.error("program hold 0 5001", 2, 15);
        CHECK.error("program discharge 0 1", 2, 18);
        CHECK.error("program discharge 1 5001", 2, 20);
        CHECK.error("program rest 0", 2, 13);
        CHECK.error("program rest 5001", 2, 13);
        CHECK.good("program charge 1 0 charge 5000 5000 hold 0 1 hold 5000 5000 discharge 1 0"
                + " discharge 5000 5000 rest 1 rest 5000 repeat 0 1 repeat 8 50", 0);
        CHECK.error("program rest 1 repeat 1 1", 2, 22);
        CHECK.error("program rest 1 repeat 0 0", 2, 24);
        CHECK.error("program rest 1 repeat 0 51", 2, 24);
        CHECK.error("program repeat 0 1", 2, 15);
    }

    private static void namesAndCounts() {
        CHECK.good("curve abcdef 1 2;curve curve 1 2;curve cell 1 2;cell curve 100 1 0 1", 1);
        CHECK.error("curve abcdefg 1 2", 3, 6);
        CHECK.error("curve a 1 2;curve a 1 2", 3, 18);
        CHECK.error("curve abcdefg", 3, 6);
        CHECK.error("cell a 100 1 0 1", 3, 5);
        CHECK.error("curve a 1 2;cell aa 100 1 0 1", 3, 17);
        CHECK.error("curve a 1 2;cell abcdefgh 100 1 0 1", 3, 17);
        CHECK.error("cell a 100 1 0 1;curve a 1 2", 3, 5);
        CHECK.good("curve abcdef 1 2;cell abcdef 100 1 0 1;curve az 1 2;cell az 100 1 0 1", 2);
        CellCycler x = Check.loaded("curve ab 1 2;curve ba 1 2;curve b 1 2;curve bb 1 2");
        String[] names = {"ba", "ab", "bb", "b", "aa", "a", "abb", "abcdefg"};
        int[] numbers = {1, 0, 3, 2, -1, -1, -1, -1};
        for (int k = 0; k < names.length; k++) {
            Check.type(x, names[k]);
            CHECK.same("curve " + names[k], x.curveNamed(), numbers[k]);
        }
        Check.load(x, "curve zyxwvu 1 2;curve z 1 2");
        Check.type(x, "zyxwvu");
        CHECK.same("six letters", x.curveNamed(), 0);
        Check.type(x, "zyxwvuz");
        CHECK.same("seven letters", x.curveNamed(), -1);
        String four = "curve a 1 2;curve b 1 2;curve c 1 2;curve d 1 2";
        CHECK.good(four, 0);
        CHECK.error(four + "; curve e 1 2", 4, 49);
        CHECK.error(four + ";curve", 4, 48);
        StringBuilder six = new StringBuilder("curve a 1 2");
        for (int k = 0; k < 6; k++) {
            six.append(";cell a 100 1 0 1");
        }
        CHECK.good(six.toString(), 6);
        CHECK.error(six + ";cell b", 4, 114);
        String programs = "program rest 1;program rest 1;program rest 1;program rest 1";
        CHECK.good(programs, 0);
        CHECK.error(programs + ";program 5", 4, 60);
    }

    private static void numbersOfADescription() {
        CellCycler x = Check.loaded("curve b 1 2;curve a 3 4;efficiency 900;fade 500;heat 50 7;"
                + "limits 100 4000 700;ambient 300;derate 20;cell a 1000 1 0 1;"
                + "program charge 11 12 hold 13 14 discharge 15 16 rest 17 repeat 2 18;"
                + "program rest 3;efficiency 950");
        int[] numbers = {950, 500, 50, 7, 100, 4000, 700, 300};
        for (int k = 0; k < 8; k++) {
            CHECK.same("setting " + k, x.setting(k), numbers[k]);
        }
        CHECK.fails("setting(-1)", "argument", () -> x.setting(-1));
        CHECK.fails("setting(8)", "argument", () -> x.setting(8));
        CHECK.same("count(0)", x.count(0), 1);
        CHECK.same("count(1)", x.count(1), 2);
        CHECK.same("count(2)", x.count(2), 2);
        CHECK.fails("count(-1)", "argument", () -> x.count(-1));
        CHECK.fails("count(3)", "argument", () -> x.count(3));
        int[][] steps = {{0, 11, 12}, {1, 13, 14}, {2, 15, 16}, {3, 17, 0}, {4, 2, 18}};
        for (int s = 0; s < 5; s++) {
            for (int what = 0; what < 3; what++) {
                CHECK.same("stepValue 0 " + s + " " + what, x.stepValue(0, s, what), steps[s][what]);
            }
        }
        CHECK.same("stepValue of the second program", x.stepValue(1, 0, 1), 3);
        CHECK.same("no step behind", x.stepValue(1, 1, 0), -1);
        CHECK.same("no step before", x.stepValue(1, -1, 0), -1);
        CHECK.same("no step 12", x.stepValue(0, 12, 0), -1);
        CHECK.fails("program 2", "index", () -> x.stepValue(2, 0, 0));
        CHECK.fails("program -1 first", "index", () -> x.stepValue(-1, 0, 9));
        CHECK.fails("what 3 before no step", "argument", () -> x.stepValue(0, 99, 3));
        CHECK.fails("what -1", "argument", () -> x.stepValue(0, 0, -1));
        x.append('b');
        CHECK.same("curveNamed b", x.curveNamed(), 0);
        CHECK.same("emptied", x.curveNamed(), -1);
        x.append('a');
        CHECK.same("curveNamed a", x.curveNamed(), 1);
        x.append(' ' << 8 | 'a');
        CHECK.same("curveNamed ' a'", x.curveNamed(), -1);
        Check.type(x, "aaaaaaaaa");
        CHECK.same("curveNamed of 9", x.curveNamed(), -1);
        CHECK.same("setAmbient", x.setAmbient(500), 300);
        CHECK.same("setAmbient", x.setAmbient(0), 500);
        CHECK.same("setting ambient", x.setting(7), 0);
        CHECK.fails("setAmbient(-1)", "argument", () -> x.setAmbient(-1));
        CHECK.fails("setAmbient(501)", "argument", () -> x.setAmbient(501));
        CHECK.same("setDerate", x.setDerate(200), 20);
        CHECK.same("setDerate", x.setDerate(0), 200);
        CHECK.fails("setDerate(-1)", "argument", () -> x.setDerate(-1));
        CHECK.fails("setDerate(201)", "argument", () -> x.setDerate(201));
        CHECK.same("setDerate kept", x.setDerate(5), 0);
    }

    private static void limits() {
        CellCycler x = Check.loaded("curve a 3000 4000;cell a 1000 100 0 1;cell a 1000 100 0 1;"
                + "cell a 1000 100 0 1;program rest 100");
        x.start(0, 0);
        x.start(1, 0);
        CHECK.same("voltage 0 before the first tick", x.setLimits(1, 5000), 2);
        CHECK.same("0 to 5000", x.setLimits(0, 5000), 0);
        x.advance(1);
        CHECK.same("both above", x.setLimits(0, 3499), 2);
        CHECK.same("LOW set", x.setting(4), 0);
        CHECK.same("HIGH set", x.setting(5), 3499);
        CHECK.same("both within", x.setLimits(3500, 3500), 0);
        CHECK.same("both below", x.setLimits(3501, 5000), 2);
        x.pause(0);
        CHECK.same("only running ones", x.setLimits(3501, 5000), 1);
        CHECK.fails("low -1", "argument", () -> x.setLimits(-1, 5));
        CHECK.fails("low 5001", "argument", () -> x.setLimits(5001, 5001));
        CHECK.fails("high below low", "argument", () -> x.setLimits(10, 9));
        CHECK.fails("high 5001", "argument", () -> x.setLimits(10, 5001));
        CHECK.same("LOW kept", x.setting(4), 3501);
    }

    private static void loadBeginsAnew() {
        CellCycler x = Check.loaded("curve a 3000 4000;cell a 1001 100 0 1;program rest 2;ambient 0");
        CHECK.same("half of it", x.value(0, 6), 500);
        CHECK.same("the ambient one", x.value(0, 9), 0);
        x.start(0, 0);
        x.enqueue(0, 0);
        x.advance(1);
        CHECK.same("error", Check.load(x, "curve b 1"), -109);
        CHECK.same("its number", x.loadError(), 1);
        CHECK.same("still at 1", x.now(), 1);
        CHECK.same("still running", x.value(0, 0), 1);
        CHECK.same("still a log", x.logSize(), 1);
        x.append('a');
        CHECK.same("still curve a", x.curveNamed(), 0);
        x.append('b');
        CHECK.same("no curve b", x.curveNamed(), -1);
        CHECK.same("loadError stays", x.loadError(), 1);
        CHECK.same("again", Check.load(x, "curve b 1 2;cell b 200 1 0 1;warn 1 2 3"), 1);
        CHECK.same("loadError 0", x.loadError(), 0);
        CHECK.same("time 0", x.now(), 0);
        CHECK.same("idle", x.value(0, 0), 0);
        CHECK.same("no queue", x.queueSize(0), 0);
        CHECK.same("charge", x.value(0, 6), 100);
        CHECK.same("default ambient", x.setting(7), 250);
        CHECK.same("no log", x.logSize(), 0);
        CHECK.same("no programs", x.count(1), 0);
        x.append('a');
        CHECK.same("no curve a", x.curveNamed(), -1);
    }

    public static void main(String[] args) {
        newObject();
        append();
        whereWordsStand();
        ranges();
        namesAndCounts();
        numbersOfADescription();
        limits();
        loadBeginsAnew();
        CHECK.finish();
    }
}
