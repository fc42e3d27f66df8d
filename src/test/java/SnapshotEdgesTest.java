import java.util.List;

/**
 * Promises 60 and 61 and section 6: slots that are empty, full and written over, and what of an object is
 * in no snapshot.
 */
public final class SnapshotEdgesTest {
    private static final Check CHECK = new Check();
    private static final String CELL = "curve a 3000 4000;efficiency 999;heat 100 5;cell a 1000 100 200 7;";
    private static final int[] NO_SLOT = {-1, 2, Integer.MIN_VALUE, Integer.MAX_VALUE};

    private static CellCycler running() {
        CellCycler x = Check.loaded(CELL + "program charge 100 3800 hold 3800 20 rest 5 discharge 200 3100 repeat 0 3;"
                + "program rest 40");
        x.start(0, 0);
        x.advance(7);
        return x;
    }

    private static void emptySlots() {
        CellCycler x = running();
        List<Object> before = Everything.of(x);
        CHECK.same("nothing in 0", x.restoreSnapshot(0), -1);
        CHECK.same("nothing in 1", x.restoreSnapshot(1), -1);
        CHECK.same("and nothing changes", Everything.of(x), before);
        CHECK.same("one of 1", x.saveSnapshot(1), 7);
        CHECK.same("still nothing in 0", x.restoreSnapshot(0), -1);
        CHECK.same("that of 1", x.restoreSnapshot(1), 7);
        CellCycler y = running();
        CHECK.same("one of 0", y.saveSnapshot(0), 7);
        CHECK.same("still nothing in 1", y.restoreSnapshot(1), -1);
        CHECK.same("that of 0", y.restoreSnapshot(0), 7);
        CHECK.same("no other object's", running().restoreSnapshot(0), -1);
    }

    private static void noSlots() {
        CellCycler x = running();
        for (int slot : NO_SLOT) {
            CHECK.fails("save " + slot, "argument", () -> x.saveSnapshot(slot));
            CHECK.fails("restore " + slot, "argument", () -> x.restoreSnapshot(slot));
        }
        CHECK.same("nothing in 0", x.restoreSnapshot(0), -1);
        CHECK.same("nothing in 1", x.restoreSnapshot(1), -1);
        x.saveSnapshot(0);
        x.saveSnapshot(1);
        x.advance(3);
        for (int slot : NO_SLOT) {
            CHECK.fails("save " + slot, "argument", () -> x.saveSnapshot(slot));
            CHECK.fails("restore " + slot, "argument", () -> x.restoreSnapshot(slot));
        }
        CHECK.same("time goes on", x.now(), 10);
        CHECK.same("0 is as it was", x.restoreSnapshot(0), 7);
        CHECK.same("and 1", x.restoreSnapshot(1), 7);
    }

    private static void slotsAreTheirOwn() {
        CellCycler x = running();
        x.saveSnapshot(0);
        List<Object> first = Everything.of(x);
        x.advance(13);
        x.saveSnapshot(1);
        List<Object> second = Everything.of(x);
        x.advance(29);
        for (int n = 0; n < 2; n++) {
            CHECK.same("restore 0", x.restoreSnapshot(0), 7);
            CHECK.same("all of 0", Everything.of(x), first);
            x.advance(13);
            CHECK.same("the same ticks", Everything.of(x), second);
            x.advance(1);
            CHECK.same("restore 1", x.restoreSnapshot(1), 20);
            CHECK.same("all of 1", Everything.of(x), second);
            x.advance(100);
        }
        CHECK.same("the older one over the newer one", x.restoreSnapshot(0) * 100 + x.saveSnapshot(1), 707);
        x.advance(50);
        CHECK.same("is in both now", x.restoreSnapshot(1), 7);
        CHECK.same("all of it", Everything.of(x), first);
    }

    private static void snapshotsStay() {
        CellCycler x = running();
        x.saveSnapshot(0);
        List<Object> before = Everything.of(x);
        x.restoreSnapshot(0);
        x.pause(0);
        x.setAmbient(0);
        x.advance(500);
        CHECK.same("a restored one is a copy", x.restoreSnapshot(0), 7);
        CHECK.same("all as before", Everything.of(x), before);
        CHECK.same("a load", Check.load(x, "curve b 1 2;ambient 77"), 0);
        CHECK.same("without channels", x.inState(0), 0);
        CHECK.same("leaves it", x.restoreSnapshot(0), 7);
        CHECK.same("all as before", Everything.of(x), before);
        CHECK.same("a load with an error", Check.load(x, "curve a 1 2;cell"), -116);
        CHECK.same("changes nothing", Everything.of(x), before);
        CHECK.same("leaves it too", x.restoreSnapshot(0), 7);
        CHECK.same("all as before", Everything.of(x), before);
    }

    private static void bufferIsNotInIt() {
        CellCycler x = running();
        Check.type(x, "a");
        CHECK.same("save leaves the buffer", x.saveSnapshot(0), 7);
        CHECK.same("it has one byte", x.append(0), 1);
        CHECK.same("which is read", x.curveNamed(), 0);
        CHECK.same("restore", x.restoreSnapshot(0), 7);
        CHECK.same("it is still empty", x.append(0), 0);
        Check.type(x, "ab");
        CHECK.same("restore", x.restoreSnapshot(0), 7);
        CHECK.same("it has two still", x.append(0), 2);
        CHECK.same("no curve ab", x.curveNamed(), -1);
        CHECK.same("a slot with nothing", x.restoreSnapshot(1), -1);
        Check.type(x, "a");
        CHECK.same("leaves the buffer too", x.restoreSnapshot(1), -1);
        CHECK.same("a", x.curveNamed(), 0);
    }

    private static void latestLoadIsNotInIt() {
        String[] texts = {"x", "ambient 501", "cell a", "curve a 1 2;curve b 1 2;curve c 1 2;curve d 1 2;curve e"};
        CellCycler x = running();
        x.saveSnapshot(0);
        for (int error = 1; error <= 4; error++) {
            Check.load(x, texts[error - 1]);
            CHECK.same("error " + error, x.loadError(), error);
            x.restoreSnapshot(0);
            CHECK.same("stays in a restore", x.loadError(), error);
            x.saveSnapshot(1);
            CHECK.same("and a save", x.loadError(), error);
            x.restoreSnapshot(1);
            CHECK.same("with any slot", x.loadError(), error);
        }
        CHECK.same("no error", Check.load(x, "ambient 1"), 0);
        x.restoreSnapshot(1);
        CHECK.same("0 stays too", x.loadError(), 0);
    }

    private static void beforeAnyLoad() {
        CellCycler x = new CellCycler();
        CHECK.same("time 0", x.saveSnapshot(1), 0);
        x.setAmbient(7);
        x.setDerate(8);
        x.setLimits(9, 10);
        x.advance(11);
        CHECK.same("time 11", x.saveSnapshot(0), 11);
        CHECK.same("nothing of it", x.restoreSnapshot(1), 0);
        CHECK.same("ambient", x.setting(7), 250);
        CHECK.same("LOW", x.setting(4), 0);
        CHECK.same("HIGH", x.setting(5), 5000);
        CHECK.same("SPAN", x.setDerate(3), 0);
        CHECK.same("all of it", x.restoreSnapshot(0), 11);
        CHECK.same("ambient", x.setting(7), 7);
        CHECK.same("LOW", x.setting(4), 9);
        CHECK.same("HIGH", x.setting(5), 10);
        CHECK.same("SPAN", x.setDerate(3), 8);
        CHECK.same("no channel", x.count(0), 0);
    }

    private static void moreAndFewerChannels() {
        String six = "curve a 3000 4000;curve b 1 2;cell a 600 1 0 1;cell b 700 1 0 1;cell a 800 1 0 1;"
                + "cell b 900 1 0 1;cell a 1000 1 0 1;cell b 1100 1 0 1;program rest 2;program rest 3 rest 4";
        CellCycler x = Check.loaded(six);
        for (int k = 0; k < 6; k++) {
            x.start(k, k % 2);
        }
        x.advance(1);
        x.saveSnapshot(0);
        List<Object> before = Everything.of(x);
        CHECK.same("one channel", Check.load(x, "curve c 5 6 7;cell c 200 1 0 1;program rest 9"), 1);
        x.saveSnapshot(1);
        CHECK.same("six again", x.restoreSnapshot(0) * 10 + x.count(0), 16);
        CHECK.same("all as before", Everything.of(x), before);
        CHECK.same("one again", x.restoreSnapshot(1) * 10 + x.count(0), 1);
        CHECK.fails("no channel 1", "index", () -> x.value(1, 0));
        CHECK.fails("no program 1", "index", () -> x.stepValue(1, 0, 0));
        CHECK.same("no step 1", x.stepValue(0, 1, 0), -1);
        Check.type(x, "b");
        CHECK.same("no curve b", x.curveNamed(), -1);
        CHECK.same("six at last", x.restoreSnapshot(0) * 10 + x.count(0), 16);
        CHECK.same("all as before", Everything.of(x), before);
    }

    private static void atTheLastTime() {
        CellCycler x = running();
        for (int n = 0; n < 59; n++) {
            x.advance(5000);
        }
        x.advance(4993);
        CHECK.same("the last time", x.saveSnapshot(0), 300000);
        CHECK.same("no more", x.advance(1), -2);
        Check.load(x, CELL + "program rest 1");
        CHECK.same("anew", x.advance(1), 0);
        CHECK.same("the last time again", x.restoreSnapshot(0), 300000);
        CHECK.same("no more", x.advance(1), -2);
    }

    private static void hiddenNumbers() {
        // What was left over, the heat, the hold before and where the step began are in it too.
        CellCycler x = Check.loaded("curve a 3000 4000;efficiency 999;heat 8 0;cell a 1000 7 0 1;fade 1000000;"
                + "program charge 1 5000;program charge 999 5000;program hold 3000 5000 discharge 50 3000 discharge 7 2990");
        x.start(0, 0);
        x.advance(1);
        x.saveSnapshot(0);
        x.advance(1);
        CHECK.same("1 of 2 with E 999", x.value(0, 6), 501);
        x.stop(0);
        x.replace(0, 500);
        x.restoreSnapshot(0);
        x.advance(1);
        CHECK.same("again", x.value(0, 6), 501);
        x.stop(0);
        x.start(0, 2);
        x.advance(2);
        x.saveSnapshot(1);
        x.stop(0);
        x.replace(0, 9);
        x.start(0, 0);
        x.restoreSnapshot(1);
        x.advance(10);
        CHECK.same("a record", x.record(0, 2), 501);
        CHECK.same("that counts", x.record(0, 4), 1);
        CHECK.same("of the whole step", x.capacityByRule(0), 501);
    }

    /** Behind a full log and full records the older rows make room: a copy must not follow them. */
    private static void fullRowsAreInIt() {
        CellCycler x = Check.loaded("curve a 3000 4000;cell a 1000 1 0 1;cell a 1000 1 0 1;"
                + "program hold 0 5000 discharge 3 5000 repeat 0 50;program discharge 1 5000 repeat 0 50");
        x.start(0, 0);
        for (int slot = 0; slot < 2; slot++) {
            x.advance(slot == 0 ? 65 : 8);
            CHECK.same("full", x.recordCount() * 100 + x.logSize(), 3060);
            x.saveSnapshot(slot);
        }
        List<Object> second = Everything.of(x);
        x.restoreSnapshot(0);
        List<Object> first = Everything.of(x);
        CHECK.same("they differ", first.equals(second), false);
        for (int n = 1; n <= 40; n += 13) {
            x.start(1, 1);
            x.advance(n);
            x.doneIn(1);
            x.restoreSnapshot(1);
            CHECK.same("all of the second", Everything.of(x), second);
            x.advance(2 * n);
            x.restoreSnapshot(0);
            CHECK.same("all of the first", Everything.of(x), first);
        }
        Check.load(x, CELL + "program rest 1");
        x.start(0, 0);
        x.advance(1);
        x.restoreSnapshot(1);
        CHECK.same("behind a load too", Everything.of(x), second);
    }

    private static void warningsAreInIt() {
        CellCycler x = Check.loaded(CELL + "warn 0 3000 1000;program rest 50");
        x.start(0, 0);
        x.saveSnapshot(0);
        x.advance(1);
        x.saveSnapshot(1);
        CHECK.same("warned", x.warnings(0) * 10 + x.warned(0), 11);
        x.restoreSnapshot(0);
        CHECK.same("not yet", x.warnings(0) * 10 + x.warned(0), 0);
        x.advance(1);
        CHECK.same("warned", x.warnings(0) * 10 + x.warned(0), 11);
        x.pause(0);
        x.advance(1);
        x.restoreSnapshot(1);
        x.advance(1);
        CHECK.same("the reason of the tick before is in it", x.warnings(0) * 10 + x.warned(0), 11);
    }

    public static void main(String[] args) {
        emptySlots();
        noSlots();
        slotsAreTheirOwn();
        snapshotsStay();
        bufferIsNotInIt();
        latestLoadIsNotInIt();
        beforeAnyLoad();
        moreAndFewerChannels();
        atTheLastTime();
        hiddenNumbers();
        fullRowsAreInIt();
        warningsAreInIt();
        CHECK.finish();
    }
}
