import java.lang.reflect.InvocationTargetException;
import java.lang.reflect.Method;
import java.lang.reflect.Modifier;
import java.nio.charset.StandardCharsets;
import java.util.ArrayList;
import java.util.Arrays;
import java.util.HashMap;
import java.util.List;
import java.util.Map;
import java.util.Random;
import java.util.TreeMap;

/** Random runs of calls (the same ones each time), given to CellCycler and to PlainModel. */
public final class RandomRunsTest {
    /** What to pass: c channel, p program, s step, or "low..high" of the document. */
    private static final String[] ARGUMENTS = {
        "count 0..2", "setting 0..7", "setAmbient 0..500", "setLimits 0..2000 4000..5000",
        "setDerate 0..200", "stepValue p s 0..2", "advance 1..5000", "start c p", "pause c",
        "resume c", "stop c", "skip c", "replace c 0..3000", "enqueue c p", "dequeue c",
        "startNext c", "queueAt c 0..3", "queueSize c", "value c 0..10", "restVoltage c 0..200000",
        "chargeFor c 0..5000", "filling c", "ledger c 0..4", "chargeEfficiency c",
        "energyEfficiency c", "power c", "measuredRest c", "capacityByRule c",
        "internalResistance c", "ticksIn c 0..9", "warnings c", "warned c", "repeats c s",
        "inState 0..4", "record 0..29 0..5", "counting c", "loss c", "logEntry 0..59 0..3",
        "eventsOf c 0..5", "stepEndsIn c", "doneIn c", "tripsIn c", "valueAfter c 0..10 0..10000",
        "peakTemperature c 0..10000", "settledIn c", "duration c p", "shortest c", "capacityIf c p",
        "safeCurrent c 1..1000", "saveSnapshot 0..1", "restoreSnapshot 0..1"};
    /** Calls that move a run on come more often. */
    private static final String[] OFTEN = {"advance", "advance", "advance", "advance", "advance",
        "advance", "advance", "advance", "start", "start", "start", "start", "enqueue", "replace",
        "startNext", "skip", "stop"};

    private final Random random;
    private final Texts texts;
    private final Map<String, String[]> arguments = new HashMap<>();
    private final Map<String, Method> methods = new TreeMap<>();
    private final Map<String, Integer> answered = new TreeMap<>();
    private final List<String> names = new ArrayList<>();
    private final List<String> told = new ArrayList<>();
    private CellCycler real;
    private PlainModel plain;

    private RandomRunsTest(long seed) {
        random = new Random(seed);
        texts = new Texts(random);
        for (String line : ARGUMENTS) {
            String[] parts = line.split(" ");
            arguments.put(parts[0], Arrays.copyOfRange(parts, 1, parts.length));
        }
        for (Method m : CellCycler.class.getDeclaredMethods()) {
            if (Modifier.isPublic(m.getModifiers())) {
                methods.put(m.getName(), m);
            }
        }
        names.addAll(methods.keySet());
        names.removeAll(List.of("append", "load", "curveNamed"));
        names.addAll(Arrays.asList(OFTEN));
    }

    private int argument(String kind) {
        boolean odd = random.nextInt(40) == 0;
        switch (kind) {
            case "c":
                int channels = Math.max(1, real.count(0));
                return odd ? pick(-1, channels, Integer.MIN_VALUE, Integer.MAX_VALUE)
                        : random.nextInt(channels);
            case "p":
                int programs = Math.max(1, real.count(1));
                return odd ? pick(-1, programs, Integer.MIN_VALUE, Integer.MAX_VALUE)
                        : random.nextInt(programs);
            case "s":
                return odd ? pick(-1, 12, Integer.MIN_VALUE, Integer.MAX_VALUE) : random.nextInt(13);
            default:
                int dots = kind.indexOf("..");
                int low = Integer.parseInt(kind.substring(0, dots));
                int high = Integer.parseInt(kind.substring(dots + 2));
                if (odd) {
                    return pick(low - 1, high + 1, low, high, Integer.MIN_VALUE, Integer.MAX_VALUE);
                }
                return high > 100 && random.nextInt(3) > 0
                        ? texts.in(low, Math.min(high, low + 60)) : texts.in(low, high);
        }
    }

    private int pick(int... numbers) {
        return numbers[random.nextInt(numbers.length)];
    }

    private Object[] argumentsOf(String name) {
        String[] kinds = arguments.getOrDefault(name, new String[0]);
        Object[] all = new Object[kinds.length];
        for (int k = 0; k < all.length; k++) {
            all[k] = argument(kinds[k]);
        }
        return all;
    }

    private static Object outcome(Object on, Method method, Object[] given) {
        try {
            return method.invoke(on, given);
        } catch (InvocationTargetException e) {
            return e.getCause().getClass().getName();
        } catch (IllegalAccessException e) {
            throw new AssertionError(e);
        }
    }

    private boolean agree(String name, Object... given) throws NoSuchMethodException {
        Method method = methods.get(name);
        Method model = PlainModel.class.getMethod(name, method.getParameterTypes());
        Object got = outcome(real, method, given);
        Object due = outcome(plain, model, given);
        told.add(name + Arrays.toString(given) + " = " + got);
        if (!NONE_AND_WRONG.contains(due)) {
            answered.merge(name, 1, Integer::sum);
        }
        if (got.equals(due)) {
            return true;
        }
        told.forEach(System.out::println);
        System.out.println("due is " + due);
        return false;
    }

    private static final List<Object> NONE_AND_WRONG = List.of(-1, -2, -3, 0, 0L, 0.0f, 0.0,
            IllegalArgumentException.class.getName(), IndexOutOfBoundsException.class.getName());

    private boolean agreeOnText(String text, String last) throws NoSuchMethodException {
        byte[] bytes = text.getBytes(StandardCharsets.ISO_8859_1);
        told.add(text);
        for (int from = 0; from < bytes.length; from += 8) {
            long packed = 0;
            for (int k = from; k < Math.min(from + 8, bytes.length); k++) {
                packed = packed << 8 | (bytes[k] & 255);
            }
            if (!agree("append", packed)) {
                return false;
            }
        }
        return agree(last) && agree("loadError");
    }

    private boolean agreeOnRun(int calls) throws NoSuchMethodException {
        real = new CellCycler();
        plain = new PlainModel();
        told.clear();
        if (random.nextInt(4) == 0 && !agreeOnText(texts.spoiled(), "load")) {
            return false;
        }
        if (!agreeOnText(texts.description(), "load")) {
            return false;
        }
        for (int n = 0; n < calls; n++) {
            boolean good;
            if (random.nextInt(150) == 0) {
                good = agreeOnText(random.nextBoolean() ? texts.spoiled() : texts.description(),
                        "load");
            } else if (random.nextInt(60) == 0) {
                good = agreeOnText(List.of("a", "b", "c", "A", "aa", " a", "", "abcdefg")
                        .get(random.nextInt(8)), "curveNamed");
            } else {
                String name = names.get(random.nextInt(names.size()));
                good = agree(name, argumentsOf(name));
            }
            if (!good) {
                return false;
            }
        }
        return true;
    }

    public static void main(String[] args) throws NoSuchMethodException {
        long first = args.length > 0 ? Long.parseLong(args[0]) : 1;
        int runs = args.length > 1 ? Integer.parseInt(args[1]) : 120;
        Map<String, Integer> answered = new TreeMap<>();
        for (long seed = first; seed < first + runs; seed++) {
            RandomRunsTest test = new RandomRunsTest(seed);
            if (!test.agreeOnRun(400)) {
                System.out.println("in the run of seed " + seed);
                System.exit(1);
            }
            test.answered.forEach((name, n) -> answered.merge(name, n, Integer::sum));
        }
        for (Method m : CellCycler.class.getDeclaredMethods()) {
            if (Modifier.isPublic(m.getModifiers()) && !answered.containsKey(m.getName())) {
                System.out.println("no run got a number from " + m.getName());
                System.exit(1);
            }
        }
        System.out.println(runs + " runs agree; answers that tell something: " + answered);
    }
}
