import java.util.ArrayList;
import java.util.List;

/** All that a cycler tells when it is asked for everything: what a refused call must not change. */
final class Everything {
    private Everything() {
    }

    static List<Object> of(CellCycler x) {
        List<Object> all = new ArrayList<>();
        all.add(x.now());
        for (int k = 0; k < 8; k++) {
            all.add(x.setting(k));
        }
        int span = x.setDerate(0);
        x.setDerate(span);
        all.add(span);
        for (int channel = 0; channel < x.count(0); channel++) {
            addChannel(all, x, channel);
            all.add(x.counting(channel));
            all.add(x.loss(channel));
            for (int event = 0; event < 6; event++) {
                all.add(x.eventsOf(channel, event));
            }
        }
        all.add(x.weakest());
        all.add(x.hottest());
        for (int state = 0; state < 5; state++) {
            all.add(x.inState(state));
        }
        addRows(all, x);
        for (int program = 0; program < x.count(1); program++) {
            for (int step = 0; step < 13; step++) {
                for (int what = 0; what < 3; what++) {
                    all.add(x.stepValue(program, step, what));
                }
            }
        }
        all.add(x.count(0));
        all.add(x.count(1));
        all.add(x.count(2));
        return all;
    }

    /** All of a channel itself, without its records and its entries of the log. */
    static List<Object> ofChannel(CellCycler x, int channel) {
        List<Object> all = new ArrayList<>();
        addChannel(all, x, channel);
        return all;
    }

    private static void addChannel(List<Object> all, CellCycler x, int channel) {
        for (int what = 0; what <= 10; what++) {
            all.add(x.value(channel, what));
            // What is hidden now, as heat and what is left over, shows later.
            all.add(x.valueAfter(channel, what, 9));
            all.add(x.valueAfter(channel, what, 200));
        }
        for (int what = 0; what < 5; what++) {
            all.add(x.ledger(channel, what));
        }
        for (int k = 0; k < 12; k++) {
            all.add(x.repeats(channel, k));
            all.add(x.queueAt(channel, k));
            all.add(x.ticksIn(channel, k % 10));
        }
        all.add(x.queueSize(channel));
        all.add(x.chargeEfficiency(channel));
        all.add(x.energyEfficiency(channel));
        all.add(x.power(channel));
        all.add(x.filling(channel));
        all.add(x.measuredRest(channel));
        all.add(x.capacityByRule(channel));
        all.add(x.internalResistance(channel));
        all.add(x.warnings(channel));
        all.add(x.warned(channel));
        all.add(x.restVoltage(channel, 0));
        all.add(x.restVoltage(channel, 777));
        all.add(x.chargeFor(channel, 3333));
        all.add(x.doneIn(channel));
        all.add(x.tripsIn(channel));
        all.add(x.stepEndsIn(channel));
        all.add(x.settledIn(channel));
        all.add(x.safeCurrent(channel, 3));
        for (int program = 0; program < x.count(1); program++) {
            all.add(x.duration(channel, program));
            all.add(x.capacityIf(channel, program));
        }
    }

    private static void addRows(List<Object> all, CellCycler x) {
        all.add(x.recordCount());
        for (int k = 0; k < x.recordCount(); k++) {
            for (int what = 0; what < 6; what++) {
                all.add(x.record(k, what));
            }
        }
        all.add(x.logSize());
        for (int k = 0; k < x.logSize(); k++) {
            for (int what = 0; what < 4; what++) {
                all.add(x.logEntry(k, what));
            }
        }
    }
}
