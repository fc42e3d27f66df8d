import java.lang.reflect.InvocationTargetException;
import java.lang.reflect.Method;
import java.lang.reflect.Modifier;
import java.util.ArrayList;
import java.util.Arrays;
import java.util.HashSet;
import java.util.List;
import java.util.Set;

/**
 * Section 6: arguments out of their range, what exception comes first, and that a refused call
 * changes nothing. Every method of the face that can refuse has its line here.
 */
public final class RefusedCallsTest {
    private static final Check CHECK = new Check();
    /** The ranges as the document writes them: c a channel, p a program, f from the number before. */
    private static final String[] RANGES = {
        "count 0..2", "setting 0..7", "setAmbient 0..500", "setLimits 0..5000 f..5000",
        "setDerate 0..200", "stepValue p any 0..2", "advance 1..5000", "start c p", "pause c", "resume c",
        "stop c", "skip c", "replace c 0..1000", "enqueue c p", "dequeue c", "startNext c",
        "queueAt c any", "queueSize c", "value c 0..10", "restVoltage c 0..200000", "chargeFor c 0..5000",
        "filling c", "ledger c 0..4", "chargeEfficiency c", "energyEfficiency c", "power c",
        "measuredRest c", "capacityByRule c", "internalResistance c", "ticksIn c 0..9", "warnings c",
        "warned c", "repeats c any", "inState 0..4", "record any 0..5", "counting c", "loss c",
        "logEntry any 0..3", "eventsOf c 0..5", "stepEndsIn c", "doneIn c", "tripsIn c",
        "valueAfter c 0..10 0..10000", "peakTemperature c 0..10000", "settledIn c", "duration c p",
        "shortest c", "capacityIf c p", "safeCurrent c 1..1000", "saveSnapshot 0..1",
        "restoreSnapshot 0..1"};
    private static final String TEXT = "curve a 3000 4000;cell a 1000 100 200 7;cell a 1000 50 0 1;"
            + "cell a 1000 50 100 3;fade 300;warn 0 3600 1000;derate 70;program charge 100 3800 hold 3800 20"
            + " rest 5 discharge 200 3100 repeat 0 3;program rest 40";
    private static final int CHANNELS = 3;
    private static final int PROGRAMS = 2;

    private static CellCycler busy() {
        CellCycler x = Check.loaded(TEXT);
        x.start(0, 0);
        x.enqueue(0, 1);
        x.start(1, 0);
        x.advance(27);
        x.saveSnapshot(0);
        x.advance(3);
        x.pause(1);
        return x;
    }

    private static Method method(String name) {
        for (Method m : CellCycler.class.getDeclaredMethods()) {
            if (Modifier.isPublic(m.getModifiers()) && m.getName().equals(name)) {
                return m;
            }
        }
        throw new AssertionError(name);
    }

    private static Object outcome(CellCycler x, Method m, Object... given) {
        try {
            return m.invoke(x, given);
        } catch (InvocationTargetException e) {
            return e.getCause().getClass().getSimpleName();
        } catch (IllegalAccessException e) {
            throw new AssertionError(e);
        }
    }

    private static int low(String kind, int before) {
        switch (kind) {
            case "c":
            case "p":
                return 0;
            case "any":
                return Integer.MIN_VALUE;
            default:
                String text = kind.substring(0, kind.indexOf(".."));
                return text.equals("f") ? before : Integer.parseInt(text);
        }
    }

    private static int high(String kind) {
        switch (kind) {
            case "c":
                return CHANNELS - 1;
            case "p":
                return PROGRAMS - 1;
            case "any":
                return Integer.MAX_VALUE;
            default:
                return Integer.parseInt(kind.substring(kind.indexOf("..") + 2));
        }
    }

    private static String exceptionOf(String kind) {
        return kind.equals("c") || kind.equals("p") ? "IndexOutOfBoundsException"
                : "IllegalArgumentException";
    }

    private static int[] wrongOnes(String kind, int before) {
        int low = low(kind, before);
        int high = high(kind);
        if (kind.equals("any")) {
            return new int[0];
        }
        return new int[] {low - 1, high + 1, low - 2, high + 2, -high - 1, low - (1 << 16), high + (1 << 16),
            low - (1 << 30), high + (1 << 30), Integer.MIN_VALUE, Integer.MIN_VALUE + 1, Integer.MAX_VALUE};
    }

    /** The bounds themselves are in range. */
    private static void bounds() {
        for (String line : RANGES) {
            String[] kinds = line.split(" ");
            Method m = method(kinds[0]);
            for (int which = 1; which < kinds.length; which++) {
                for (int n = 0; n < 2; n++) {
                    Object[] given = new Object[kinds.length - 1];
                    for (int k = 1; k < kinds.length; k++) {
                        int before = k > 1 ? (Integer) given[k - 2] : 0;
                        given[k - 1] = k == which && n == 1 ? high(kinds[k]) : low(kinds[k], before);
                    }
                    Object got = outcome(busy(), m, given);
                    CHECK.same(kinds[0] + Arrays.toString(given) + " throws", got instanceof String, false);
                }
            }
        }
        Object[] widest = {5000, 5000};
        CHECK.same("setLimits(5000, 5000)", outcome(busy(), method("setLimits"), widest), 1);
    }

    /** One argument out of its range, or two: then the one of the exception listed first. */
    private static void outOfRange() {
        for (String line : RANGES) {
            String[] kinds = line.split(" ");
            Method m = method(kinds[0]);
            CellCycler x = busy();
            List<Object> before = Everything.of(x);
            for (int which = 1; which < kinds.length; which++) {
                for (int base = 0; base < 2; base++) {
                    tryWrong(x, m, kinds, which, base == 0);
                }
            }
            CHECK.same(kinds[0] + " refused changes nothing", Everything.of(x), before);
        }
    }

    private static void tryWrong(CellCycler x, Method m, String[] kinds, int which, boolean atLow) {
        Object[] given = new Object[kinds.length - 1];
        for (int k = 1; k < kinds.length; k++) {
            given[k - 1] = atLow ? low(kinds[k], 0) : high(kinds[k]);
        }
        int before = which > 1 ? (Integer) given[which - 2] : 0;
        for (int wrong : wrongOnes(kinds[which], before)) {
            given[which - 1] = wrong;
            CHECK.same(kinds[0] + Arrays.toString(given), outcome(x, m, given), exceptionOf(kinds[which]));
            for (int other = which + 1; other < kinds.length; other++) {
                Object kept = given[other - 1];
                for (int alsoWrong : wrongOnes(kinds[other], 0)) {
                    given[other - 1] = alsoWrong;
                    CHECK.same(kinds[0] + Arrays.toString(given), outcome(x, m, given),
                            exceptionOf(kinds[which]));
                }
                given[other - 1] = kept;
            }
        }
    }

    /** high is refused below low, wherever that is. */
    private static void highBelowLow() {
        CellCycler x = busy();
        List<Object> before = Everything.of(x);
        int[][] pairs = {{1, 0}, {5000, 4999}, {2500, 2499}, {5000, 0}, {5000, -1}, {-1, -1}, {5001, 5001},
            {-1, 5000}, {5001, 5000}, {0, 5001}, {0, -1}};
        for (int[] pair : pairs) {
            CHECK.fails("setLimits " + pair[0] + " " + pair[1], "argument",
                    () -> x.setLimits(pair[0], pair[1]));
        }
        CHECK.same("nothing changed", Everything.of(x), before);
        x.setLimits(7, 7);
        CHECK.same("low itself is no less", x.setting(4) + x.setting(5), 14);
    }

    /** A new object has no channels and programs: every number of one is out of range. */
    private static void withoutChannels() {
        for (String text : new String[] {"", "ambient 3", "curve a 1 2;program rest 1"}) {
            for (String line : RANGES) {
                String[] kinds = line.split(" ");
                boolean noProgram = kinds[1].equals("p") && !text.contains("program");
                if (!kinds[1].equals("c") && !noProgram) {
                    continue;
                }
                CellCycler x = new CellCycler();
                if (!text.isEmpty()) {
                    Check.load(x, text);
                }
                for (int number : new int[] {0, 1, -1, Integer.MIN_VALUE, Integer.MAX_VALUE}) {
                    for (int rest : new int[] {0, 1, -1}) {
                        Object[] given = new Object[kinds.length - 1];
                        Arrays.fill(given, rest);
                        given[0] = number;
                        CHECK.same("no channel: " + kinds[0] + Arrays.toString(given),
                                outcome(x, method(kinds[0]), given), "IndexOutOfBoundsException");
                    }
                }
            }
        }
        CellCycler x = Check.loaded("curve a 1 2;cell a 100 1 0 1");
        for (String name : new String[] {"start", "enqueue", "duration", "capacityIf"}) {
            for (int program : new int[] {0, 1, -1, Integer.MIN_VALUE, Integer.MAX_VALUE}) {
                CHECK.same("no program: " + name, outcome(x, method(name), 0, program),
                        "IndexOutOfBoundsException");
            }
        }
    }

    /** The number of channels and programs, and not the most that there may be, bounds them. */
    private static void howManyThereAre() {
        String cells = "curve a 1 2";
        String programs = "";
        for (int n = 1; n <= 6; n++) {
            cells += ";cell a 100 1 0 1";
            programs += n <= 4 ? ";program rest 1" : "";
            CellCycler x = Check.loaded(cells + programs);
            int channels = n;
            int count = Math.min(n, 4);
            CHECK.same("the last channel", x.value(channels - 1, 6), 50);
            CHECK.fails("one too many", "index", () -> x.value(channels, 6));
            CHECK.same("the last program", x.stepValue(count - 1, 0, 0), 3);
            CHECK.fails("one too many", "index", () -> x.stepValue(count, 0, 0));
            CHECK.fails("a program too many", "index", () -> x.duration(0, count));
            Check.load(x, "curve a 1 2;cell a 100 1 0 1;program rest 1");
            CHECK.same("fewer then", x.value(0, 6), 50);
            CHECK.fails("those before are gone", "index", () -> x.value(1, 6));
            CHECK.fails("their programs too", "index", () -> x.stepValue(1, 0, 0));
        }
    }

    /** Exceptions come before errors. */
    private static void exceptionsBeforeErrors() {
        CellCycler x = busy();
        CHECK.same("a running channel is not started", x.start(0, 0), -3);
        CHECK.fails("but no program comes first", "index", () -> x.start(0, 2));
        CHECK.same("a running channel keeps its cell", x.replace(0, 5), -3);
        CHECK.fails("but the charge comes first", "argument", () -> x.replace(0, 1001));
        CHECK.same("nor does a paused one lose it", x.replace(1, 5), -3);
        CHECK.fails("but the charge comes first there too", "argument", () -> x.replace(1, -1));
        for (int n = 0; n < 4; n++) {
            x.enqueue(2, 0);
        }
        CHECK.same("a full queue", x.enqueue(2, 0), -2);
        CHECK.fails("but no program comes first", "index", () -> x.enqueue(2, 2));
        CHECK.same("no step", x.stepValue(0, 12, 0), -1);
        CHECK.fails("but what comes first", "argument", () -> x.stepValue(0, 12, 3));
        CHECK.same("no record", x.record(30, 0), -1);
        CHECK.fails("but what comes first", "argument", () -> x.record(30, 6));
        CHECK.same("no entry", x.logEntry(60, 0), -1);
        CHECK.fails("but what comes first", "argument", () -> x.logEntry(60, 4));
        CHECK.same("no snapshot", x.restoreSnapshot(1), -1);
        while (x.now() <= 295000) {
            x.advance(5000);
        }
        CHECK.same("no time left", x.advance(5000), -2);
        CHECK.fails("but the ticks come first", "argument", () -> x.advance(5001));
        CHECK.fails("and none of them too", "argument", () -> x.advance(0));
    }

    /** What answers with an error changes nothing either. */
    private static void errorsChangeNothing() {
        CellCycler x = busy();
        for (int n = 0; n < 3; n++) {
            x.enqueue(0, 0);
        }
        List<Object> before = Everything.of(x);
        CHECK.same("FULL", x.enqueue(0, 1), -2);
        CHECK.same("start running", x.start(0, 1), -3);
        CHECK.same("start paused", x.start(1, 1), -3);
        CHECK.same("pause paused", x.pause(1), -3);
        CHECK.same("pause idle", x.pause(2), -3);
        CHECK.same("resume running", x.resume(0), -3);
        CHECK.same("resume idle", x.resume(2), -3);
        CHECK.same("skip paused", x.skip(1), -3);
        CHECK.same("skip idle", x.skip(2), -3);
        CHECK.same("replace running", x.replace(0, 500), -3);
        CHECK.same("replace paused", x.replace(1, 500), -3);
        CHECK.same("dequeue of none", x.dequeue(1), -1);
        CHECK.same("startNext running", x.startNext(0), -3);
        CHECK.same("startNext paused", x.startNext(1), -3);
        CHECK.same("startNext of none", x.startNext(2), -1);
        CHECK.same("queueAt of none", x.queueAt(0, 4), -1);
        CHECK.same("restore of none", x.restoreSnapshot(1), -1);
        CHECK.same("nothing changed", Everything.of(x), before);
        CHECK.same("an error in a text", Check.load(x, "curve b 1 2;cell b 100 1 0 1;program rest"), -141);
        CHECK.same("but the error's number", x.loadError(), 1);
        CHECK.same("nothing else changed", Everything.of(x), before);
        Check.type(x, "b");
        CHECK.same("no curve", x.curveNamed(), -1);
        CHECK.same("nothing changed", Everything.of(x), before);
        for (int n = 0; n < 100; n++) {
            x.append(-1L);
        }
        CHECK.same("FULL buffer", x.append(1), -2);
        CHECK.same("nothing changed", Everything.of(x), before);
        CHECK.same("the snapshot is as it was", x.restoreSnapshot(0), 27);
    }

    private static void timeIsFull() {
        CellCycler x = busy();
        while (x.now() <= 294000) {
            x.advance(5000);
        }
        x.resume(1);
        x.start(2, 1);
        int left = 300000 - x.now();
        List<Object> before = Everything.of(x);
        CHECK.same("one tick too many", x.advance(left + 1), -2);
        CHECK.same("many too many", x.advance(5000), left < 5000 ? -2 : 0);
        CHECK.same("nothing changed", Everything.of(x), before);
    }

    /** Every method has its line above, so that none is forgotten. */
    private static void everyMethod() {
        Set<String> lines = new HashSet<>();
        for (String line : RANGES) {
            lines.add(line.split(" ")[0]);
        }
        List<String> missing = new ArrayList<>();
        for (Method m : CellCycler.class.getDeclaredMethods()) {
            boolean refuses = m.getExceptionTypes().length > 0;
            if (Modifier.isPublic(m.getModifiers()) && refuses != lines.contains(m.getName())) {
                missing.add(m.getName());
            }
        }
        CHECK.same("methods that refuse without a line", missing, new ArrayList<String>());
    }

    public static void main(String[] args) {
        bounds();
        outOfRange();
        highBelowLow();
        withoutChannels();
        howManyThereAre();
        exceptionsBeforeErrors();
        errorsChangeNothing();
        timeIsFull();
        everyMethod();
        CHECK.finish();
    }
}
