import java.util.ArrayList;
import java.util.List;

/** Promises 60 and 61: snapshots hold everything but the buffer, the latest load and themselves. */
public final class SnapshotTest {
    private static final Check CHECK = new Check();
    private static final String TEXT = "curve a 3000 4000;cell a 1000 100 200 7;cell a 900 50 0 1;fade 300;"
            + "warn 0 3600 1000;program charge 100 3800 hold 3800 20 rest 5 discharge 200 3100 repeat 0 3;"
            + "program rest 40";

    private static CellCycler busy() {
        CellCycler x = Check.loaded(TEXT);
        x.start(0, 0);
        x.enqueue(0, 1);
        x.advance(20);
        x.start(1, 0);
        x.advance(7);
        return x;
    }

    private static void there() {
        CellCycler x = busy();
        CHECK.same("nothing there", x.restoreSnapshot(0), -1);
        CHECK.same("save", x.saveSnapshot(0), 27);
        CHECK.same("nothing in the other", x.restoreSnapshot(1), -1);
        List<Object> before = Everything.of(x);
        List<Object> later = new ArrayList<>();
        for (int round = 0; round < 2; round++) {
            x.setAmbient(100);
            x.setLimits(1, 4999);
            x.setDerate(3);
            x.dequeue(0);
            x.advance(33);
            x.stop(1);
            x.replace(1, 5);
            if (round == 0) {
                later = Everything.of(x);
            } else {
                CHECK.same("the same calls again", Everything.of(x), later);
            }
            CHECK.same("changed", before.equals(later), false);
            CHECK.same("restore", x.restoreSnapshot(0), 27);
            CHECK.same("all as before", Everything.of(x), before);
            CHECK.same("SPAN as before", x.setDerate(0), 0);
        }
    }

    private static void two() {
        CellCycler x = busy();
        x.saveSnapshot(1);
        x.advance(3);
        CHECK.same("save 0", x.saveSnapshot(0), 30);
        CHECK.same("restore 1", x.restoreSnapshot(1), 27);
        CHECK.same("restore 0", x.restoreSnapshot(0), 30);
        x.advance(5);
        CHECK.same("over the old one", x.saveSnapshot(1), 35);
        x.advance(5);
        CHECK.same("restore the new one", x.restoreSnapshot(1), 35);
        CHECK.fails("save -1", "argument", () -> x.saveSnapshot(-1));
        CHECK.fails("save 2", "argument", () -> x.saveSnapshot(2));
        CHECK.fails("restore -1", "argument", () -> x.restoreSnapshot(-1));
        CHECK.fails("restore 2", "argument", () -> x.restoreSnapshot(2));
    }

    private static void overLoads() {
        CellCycler x = busy();
        x.saveSnapshot(0);
        List<Object> before = Everything.of(x);
        CHECK.same("another text", Check.load(x, "curve b 1 2 3;cell b 100 1 0 1;program rest 1"), 1);
        x.advance(1);
        x.saveSnapshot(1);
        CHECK.same("an error", Check.load(x, "curve b 1 2 3;cell c"), -119);
        x.append('a');
        CHECK.same("restore", x.restoreSnapshot(0), 27);
        CHECK.same("the latest load is not in it", x.loadError(), 3);
        CHECK.same("the buffer is not in it", x.append('b'), 2);
        CHECK.same("all as before", Everything.of(x), before);
        CHECK.same("buffer ab", x.curveNamed(), -1);
        x.append('a');
        CHECK.same("curve a", x.curveNamed(), 0);
        CHECK.same("restore the other", x.restoreSnapshot(1), 1);
        x.append('a');
        CHECK.same("no curve a", x.curveNamed(), -1);
        x.append('b');
        CHECK.same("curve b", x.curveNamed(), 0);
        CHECK.same("one channel", x.count(0), 1);
        CHECK.fails("no channel 1", "index", () -> x.value(1, 0));
    }

    private static void withinADischarge() {
        CellCycler x = Check.loaded("curve a 3000 4000;cell a 1000 100 0 1;"
                + "program hold 3500 5000 discharge 100 3450 hold 3400 5000 discharge 100 3200");
        x.start(0, 0);
        x.advance(4);
        CHECK.same("of the first", x.capacityByRule(0), 100);
        x.saveSnapshot(0);
        x.stop(0);
        x.replace(0, 500);
        x.start(0, 0);
        x.advance(1);
        x.restoreSnapshot(0);
        x.advance(1);
        CHECK.same("of the second", x.capacityByRule(0), 200);
        CHECK.same("its record", x.record(1, 2), 200);
    }

    private static void empty() {
        CellCycler x = new CellCycler();
        CHECK.same("save nothing", x.saveSnapshot(0), 0);
        Check.load(x, TEXT);
        x.advance(5);
        CHECK.same("restore nothing", x.restoreSnapshot(0), 0);
        CHECK.same("no channels", x.count(0), 0);
        CHECK.same("time 0", x.now(), 0);
        CHECK.same("default", x.setting(1), 100000);
    }

    public static void main(String[] args) {
        there();
        two();
        overLoads();
        withinADischarge();
        empty();
        CHECK.finish();
    }
}
