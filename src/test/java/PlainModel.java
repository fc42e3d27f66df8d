import java.util.ArrayList;
import java.util.Arrays;
import java.util.List;
import java.util.function.IntPredicate;
import java.util.regex.Matcher;
import java.util.regex.Pattern;

/**
 * The document once more, in another form: lists, patterns and copies wherever they are handy. The
 * runs of RandomRunsTest give every call to this and to CellCycler.
 */
public final class PlainModel {
    static final class Wrong extends RuntimeException {
        final int number;
        final int position;

        Wrong(int number, int position) {
            this.number = number;
            this.position = position;
        }
    }

    static final class Cell implements Cloneable {
        int id;
        List<Long> curve;
        long nominal, r, polar, tau;
        long q, left, cap, through, p, temp, heat, i, u, in, out, ein, eout;
        int state, program, step, lasted, reason, rest, rule, resistance, warned, warnings;
        int[] bands;
        int[] times;
        List<Integer> queue;
        long recordIn, recordOut, stepOut;
        boolean held;

        void fresh(long charge, long ambient) {
            q = charge;
            temp = ambient;
            cap = nominal;
            left = through = p = heat = i = u = in = out = ein = eout = 0;
            state = step = lasted = reason = warned = warnings = 0;
            program = rest = rule = resistance = -1;
            bands = new int[10];
            times = new int[12];
            queue = new ArrayList<>();
            recordIn = recordOut = stepOut = 0;
            held = false;
        }

        long restAt(long charge) {
            int n = curve.size();
            long k = Math.min(charge * (n - 1) / cap, n - 2);
            long a = curve.get((int) k);
            long b = curve.get((int) k + 1);
            return a + (b - a) * (charge * (n - 1) - k * cap) / cap;
        }

        Cell copy() {
            try {
                Cell c = (Cell) clone();
                c.bands = bands.clone();
                c.times = times.clone();
                c.queue = new ArrayList<>(queue);
                return c;
            } catch (CloneNotSupportedException e) {
                throw new AssertionError(e);
            }
        }
    }

    private String text = "";
    private int loadError = 0;
    private PlainModel[] slots = new PlainModel[2];

    private List<String> names = new ArrayList<>();
    private List<List<Long>> curves = new ArrayList<>();
    private List<List<int[]>> programs = new ArrayList<>();
    private List<Cell> cells = new ArrayList<>();
    private long[] set = {990, 100000, 100, 5, 0, 5000, 600, 250, 0, 5000, 1000, 0};
    private int time = 0;
    private List<int[]> records = new ArrayList<>();
    private List<int[]> log = new ArrayList<>();

    // ---- the text

    private static final Pattern TOKEN = Pattern.compile(" *([a-z]+|[0-9]+|;|\\z|[^ ])", Pattern.DOTALL);

    static final class Parser {
        final List<String> tokens = new ArrayList<>();
        final List<Integer> places = new ArrayList<>();
        int k = 0;
        int at;

        Parser(String text) {
            Matcher m = TOKEN.matcher(text);
            int from = 0;
            while (m.find(from)) {
                tokens.add(m.group(1));
                places.add(m.start(1));
                from = m.end();
                if (m.group(1).isEmpty()) {
                    break;
                }
            }
        }

        boolean seesWord() {
            return tokens.get(k).matches("[a-z]+");
        }

        boolean seesNumber() {
            return tokens.get(k).matches("[0-9]+");
        }

        String word() {
            at = places.get(k);
            if (!seesWord()) {
                throw new Wrong(1, at);
            }
            return tokens.get(k++);
        }

        long number(long low, long high) {
            at = places.get(k);
            if (!seesNumber()) {
                throw new Wrong(1, at);
            }
            java.math.BigInteger n = new java.math.BigInteger(tokens.get(k));
            if (n.compareTo(java.math.BigInteger.valueOf(low)) < 0
                    || n.compareTo(java.math.BigInteger.valueOf(high)) > 0) {
                throw new Wrong(2, at);
            }
            k++;
            return n.longValue();
        }
    }

    private void parse(Parser s) {
        while (true) {
            String word = s.word();
            int at = s.at;
            switch (word) {
                case "curve" -> {
                    if (curves.size() == 4) {
                        throw new Wrong(4, at);
                    }
                    String name = s.word();
                    if (name.length() > 6 || names.contains(name)) {
                        throw new Wrong(3, s.at);
                    }
                    List<Long> curve = new ArrayList<>();
                    curve.add(s.number(0, 5000));
                    curve.add(s.number(curve.get(0), 5000));
                    while (curve.size() < 11 && s.seesNumber()) {
                        curve.add(s.number(curve.get(curve.size() - 1), 5000));
                    }
                    names.add(name);
                    curves.add(curve);
                }
                case "cell" -> {
                    if (cells.size() == 6) {
                        throw new Wrong(4, at);
                    }
                    int c = names.indexOf(s.word());
                    if (c < 0) {
                        throw new Wrong(3, s.at);
                    }
                    Cell cell = new Cell();
                    cell.id = cells.size();
                    cell.curve = curves.get(c);
                    cell.nominal = s.number(100, 100000);
                    cell.r = s.number(1, 500);
                    cell.polar = s.number(0, 500);
                    cell.tau = s.number(1, 200);
                    cells.add(cell);
                }
                case "program" -> {
                    if (programs.size() == 4) {
                        throw new Wrong(4, at);
                    }
                    List<int[]> steps = new ArrayList<>();
                    do {
                        String kind = s.word();
                        int n = Arrays.asList("charge", "hold", "discharge", "rest", "repeat")
                                .indexOf(kind);
                        if (n < 0) {
                            throw new Wrong(1, s.at);
                        }
                        long[][] range = {
                            {1, 5000, 0, 5000}, {0, 5000, 1, 5000}, {1, 5000, 0, 5000},
                            {1, 5000, 0, 0}, {0, steps.size() - 1, 1, 50}};
                        int first = (int) s.number(range[n][0], range[n][1]);
                        int second = n == 3 ? 0 : (int) s.number(range[n][2], range[n][3]);
                        steps.add(new int[] {n, first, second});
                    } while (steps.size() < 12 && s.seesWord());
                    programs.add(steps);
                }
                case "efficiency" -> set[0] = s.number(500, 1000);
                case "fade" -> set[1] = s.number(100, 1000000);
                case "heat" -> {
                    set[2] = s.number(1, 10000);
                    set[3] = s.number(0, Math.min(100, set[2]));
                }
                case "limits" -> {
                    set[4] = s.number(0, 5000);
                    set[5] = s.number(set[4], 5000);
                    set[6] = s.number(250, 1000);
                }
                case "ambient" -> set[7] = s.number(0, 500);
                case "warn" -> {
                    set[8] = s.number(0, 5000);
                    set[9] = s.number(set[8], 5000);
                    set[10] = s.number(0, 1000);
                }
                case "derate" -> set[11] = s.number(0, 200);
                default -> throw new Wrong(1, at);
            }
            String end = s.tokens.get(s.k);
            if (end.isEmpty()) {
                return;
            }
            if (!end.equals(";")) {
                throw new Wrong(1, s.places.get(s.k));
            }
            s.k++;
        }
    }

    // ---- a tick

    private void event(Cell c, int event, int number) {
        log.add(new int[] {time, c.id, event, number});
        if (log.size() > 60) {
            log.remove(0);
        }
    }

    private boolean tick(Cell c) {
        boolean running = c.state == 1;
        int[] step = running ? programs.get(c.program).get(c.step) : new int[] {3, 1, 0};
        long i = switch (step[0]) {
            case 0 -> step[1];
            case 1 -> Math.min(5000, Math.max(0, (step[1] - c.restAt(c.q) - c.p) * 1000 / c.r));
            case 2 -> -step[1];
            default -> 0;
        };
        i = limited(c, i);
        long oldI = c.i;
        long oldU = c.u;
        flow(c, i);
        c.bands[(int) Math.min(9, 1000 * c.q / c.cap / 100)]++;
        if (!running) {
            c.warned = 0;
            return false;
        }
        if (c.lasted == 0 && i != oldI) {
            c.resistance = (int) ((c.u - oldU) * 1000 / (i - oldI));
        }
        c.lasted++;
        int warned = c.u > set[9] ? 1 : c.u < set[8] ? 2 : c.temp > set[10] ? 3 : 0;
        if (warned != 0 && warned != c.warned) {
            c.warnings++;
            event(c, 4, warned);
        }
        c.warned = warned;
        boolean ends = switch (step[0]) {
            case 0 -> c.u >= step[2];
            case 1 -> i <= step[2];
            case 2 -> c.u <= step[2] || c.q == 0;
            default -> c.lasted >= step[1];
        };
        int reason = c.u > set[5] ? 1 : c.u < set[4] ? 2 : c.temp > set[6] ? 3
                : c.lasted >= 20000 && !ends ? 4 : 0;
        if (reason != 0) {
            c.state = 4;
            c.reason = reason;
            event(c, 3, reason);
            return false;
        }
        if (ends) {
            if (step[0] == 1) {
                c.held = true;
            } else if (step[0] == 3) {
                c.rest = (int) c.u;
            } else if (step[0] == 2) {
                boolean counts = c.held && c.u <= step[2];
                records.add(new int[] {c.id, (int) (c.in - c.recordIn), (int) (c.out - c.recordOut),
                    time, counts ? 1 : 0});
                if (records.size() > 30) {
                    records.remove(0);
                }
                if (counts) {
                    c.rule = (int) (c.out - c.stepOut);
                }
                c.recordIn = c.in;
                c.recordOut = c.out;
                c.held = false;
            }
            onward(c);
        }
        return ends;
    }

    private long limited(Cell c, long i) {
        if (set[11] != 0 && c.temp > set[6] - set[11]) {
            i = i * Math.max(0, set[6] - c.temp) / set[11];
        }
        return Math.max(i, -c.q);
    }

    private void flow(Cell c, long i) {
        long goal = i * c.polar / 1000;
        long change = (goal - c.p) / c.tau;
        c.p += change != 0 ? change : Long.signum(goal - c.p);
        if (i > 0) {
            c.in += i;
            long sum = i * set[0] + c.left;
            c.q = Math.min(c.q + sum / 1000, 2 * c.nominal);
            c.left = sum % 1000;
        } else if (i < 0) {
            c.q += i;
            c.out += -i;
        }
        c.through += Math.abs(i);
        while (c.through >= set[1]) {
            c.through -= set[1];
            c.cap = Math.max(c.cap - 1, c.nominal / 2);
        }
        c.heat += i * i / 1000 * c.r / 1000 - (c.temp - set[7]) * set[3];
        c.temp += c.heat / set[2];
        c.heat %= set[2];
        c.i = i;
        c.u = c.restAt(c.q) + i * c.r / 1000 + c.p;
        if (i > 0) {
            c.ein += i * c.u;
        } else if (i < 0) {
            c.eout += -i * c.u;
        }
    }

    private void onward(Cell c) {
        event(c, 1, c.step);
        List<int[]> steps = programs.get(c.program);
        int next = c.step + 1;
        while (next < steps.size() && steps.get(next)[0] == 4) {
            if (c.times[next] < steps.get(next)[2]) {
                c.times[next]++;
                next = steps.get(next)[1];
            } else {
                c.times[next] = 0;
                next++;
            }
        }
        if (next < steps.size()) {
            c.step = next;
            c.lasted = 0;
            c.stepOut = c.out;
            return;
        }
        event(c, 2, 0);
        c.state = 3;
        if (!c.queue.isEmpty()) {
            begin(c, c.queue.remove(0));
        }
    }

    private void begin(Cell c, int program) {
        event(c, 0, program);
        c.state = 1;
        c.program = program;
        c.step = 0;
        c.lasted = 0;
        c.times = new int[12];
        c.recordIn = c.in;
        c.recordOut = c.out;
        c.stepOut = c.out;
        c.held = false;
    }

    // ---- what is thrown

    private static void range(long number, long low, long high) {
        if (number < low || number > high) {
            throw new IllegalArgumentException();
        }
    }

    private Cell cell(int k) {
        if (k < 0 || k >= cells.size()) {
            throw new IndexOutOfBoundsException();
        }
        return cells.get(k);
    }

    private void hasProgram(int k) {
        if (k < 0 || k >= programs.size()) {
            throw new IndexOutOfBoundsException();
        }
    }

    // ---- the face

    public int append(long bytes) {
        StringBuilder more = new StringBuilder();
        for (byte b : java.nio.ByteBuffer.allocate(8).putLong(bytes).array()) {
            if (b != 0) {
                more.append((char) (b & 255));
            }
        }
        if (text.length() + more.length() > 800) {
            return -2;
        }
        text += more;
        return text.length();
    }

    public int load() {
        PlainModel next = new PlainModel();
        Parser parser = new Parser(text);
        text = "";
        try {
            next.parse(parser);
        } catch (Wrong e) {
            loadError = e.number;
            return -100 - e.position;
        }
        for (Cell c : next.cells) {
            c.fresh(c.nominal / 2, next.set[7]);
        }
        take(next);
        loadError = 0;
        return cells.size();
    }

    public int loadError() {
        return loadError;
    }

    public int curveNamed() {
        int k = names.indexOf(text);
        text = "";
        return k;
    }

    public int count(int what) {
        range(what, 0, 2);
        return List.of(cells.size(), programs.size(), curves.size()).get(what);
    }

    public int setting(int what) {
        range(what, 0, 7);
        return (int) set[what];
    }

    public int setAmbient(int temperature) {
        range(temperature, 0, 500);
        int old = (int) set[7];
        set[7] = temperature;
        return old;
    }

    public int setLimits(int low, int high) {
        range(low, 0, 5000);
        range(high, low, 5000);
        set[4] = low;
        set[5] = high;
        return (int) cells.stream().filter(c -> c.state == 1 && (c.u < low || c.u > high)).count();
    }

    public int setDerate(int span) {
        range(span, 0, 200);
        int old = (int) set[11];
        set[11] = span;
        return old;
    }

    public int stepValue(int program, int step, int what) {
        hasProgram(program);
        range(what, 0, 2);
        List<int[]> steps = programs.get(program);
        return step < 0 || step >= steps.size() ? -1 : steps.get(step)[what];
    }

    public int now() {
        return time;
    }

    public int advance(int ticks) {
        range(ticks, 1, 5000);
        if (time + ticks > 300000) {
            return -2;
        }
        int ended = 0;
        for (int n = 0; n < ticks; n++) {
            time++;
            for (Cell c : cells) {
                ended += tick(c) ? 1 : 0;
            }
        }
        return ended;
    }

    public int start(int channel, int program) {
        Cell c = cell(channel);
        hasProgram(program);
        if (c.state != 0 && c.state != 3) {
            return -3;
        }
        begin(c, program);
        return (int) cells.stream().filter(d -> d.state == 1).count();
    }

    public int pause(int channel) {
        Cell c = cell(channel);
        if (c.state != 1) {
            return -3;
        }
        c.state = 2;
        return c.step;
    }

    public int resume(int channel) {
        Cell c = cell(channel);
        if (c.state != 2) {
            return -3;
        }
        c.state = 1;
        return c.step;
    }

    public int stop(int channel) {
        Cell c = cell(channel);
        int old = c.state;
        c.state = 0;
        return old;
    }

    public int skip(int channel) {
        Cell c = cell(channel);
        if (c.state != 1) {
            return -3;
        }
        onward(c);
        return c.state == 1 ? c.step : -1;
    }

    public int replace(int channel, int charge) {
        Cell c = cell(channel);
        range(charge, 0, c.nominal);
        if (c.state == 1 || c.state == 2) {
            return -3;
        }
        int old = (int) c.q;
        c.fresh(charge, set[7]);
        event(c, 5, 0);
        return old;
    }

    public int enqueue(int channel, int program) {
        Cell c = cell(channel);
        hasProgram(program);
        if (c.queue.size() == 4) {
            return -2;
        }
        c.queue.add(program);
        return c.queue.size();
    }

    public int dequeue(int channel) {
        Cell c = cell(channel);
        return c.queue.isEmpty() ? -1 : c.queue.remove(c.queue.size() - 1);
    }

    public int startNext(int channel) {
        Cell c = cell(channel);
        if (c.state != 0 && c.state != 3) {
            return -3;
        }
        if (c.queue.isEmpty()) {
            return -1;
        }
        begin(c, c.queue.remove(0));
        return c.program;
    }

    public int queueAt(int channel, int index) {
        Cell c = cell(channel);
        return index < 0 || index >= c.queue.size() ? -1 : c.queue.get(index);
    }

    public int queueSize(int channel) {
        return cell(channel).queue.size();
    }

    public int value(int channel, int what) {
        Cell c = cell(channel);
        range(what, 0, 10);
        return number(c, what);
    }

    private static int number(Cell c, int what) {
        boolean in = c.state == 1 || c.state == 2 || c.state == 4;
        long[] all = {c.state, c.program, in ? c.step : -1, in ? c.lasted : 0, c.i, c.u, c.q, c.cap,
            c.p, c.temp, c.reason};
        return (int) all[what];
    }

    public int restVoltage(int channel, int charge) {
        Cell c = cell(channel);
        range(charge, 0, 200000);
        return (int) c.restAt(charge);
    }

    public int chargeFor(int channel, int voltage) {
        Cell c = cell(channel);
        range(voltage, 0, 5000);
        for (int q = 0; q <= c.cap; q++) {
            if (c.restAt(q) >= voltage) {
                return q;
            }
        }
        return -1;
    }

    public int filling(int channel) {
        Cell c = cell(channel);
        return (int) (1000 * c.q / c.cap);
    }

    public long ledger(int channel, int what) {
        Cell c = cell(channel);
        range(what, 0, 4);
        return new long[] {c.in, c.out, c.through, c.ein, c.eout}[what];
    }

    public float chargeEfficiency(int channel) {
        Cell c = cell(channel);
        return c.in == 0 ? 0.0f : (float) c.out / (float) c.in;
    }

    public double energyEfficiency(int channel) {
        Cell c = cell(channel);
        return c.ein == 0 ? 0.0 : (double) c.eout / (double) c.ein;
    }

    public int power(int channel) {
        Cell c = cell(channel);
        return (int) (c.i * c.u / 1000);
    }

    public int measuredRest(int channel) {
        return cell(channel).rest;
    }

    public int capacityByRule(int channel) {
        return cell(channel).rule;
    }

    public int internalResistance(int channel) {
        return cell(channel).resistance;
    }

    public int ticksIn(int channel, int band) {
        Cell c = cell(channel);
        range(band, 0, 9);
        return c.bands[band];
    }

    public int warnings(int channel) {
        return cell(channel).warnings;
    }

    public int warned(int channel) {
        return cell(channel).warned;
    }

    public int repeats(int channel, int step) {
        Cell c = cell(channel);
        return step < 0 || step > 11 ? 0 : c.times[step];
    }

    public int inState(int state) {
        range(state, 0, 4);
        return cells.stream().filter(c -> c.state == state).mapToInt(c -> 1 << c.id).sum();
    }

    public int weakest() {
        int best = -1;
        for (Cell c : cells) {
            if (best < 0 || 1000 * c.cap / c.nominal
                    < 1000 * cells.get(best).cap / cells.get(best).nominal) {
                best = c.id;
            }
        }
        return best;
    }

    public int hottest() {
        int best = -1;
        for (Cell c : cells) {
            if (best < 0 || c.temp > cells.get(best).temp) {
                best = c.id;
            }
        }
        return best;
    }

    public int recordCount() {
        return records.size();
    }

    public int record(int index, int what) {
        range(what, 0, 5);
        if (index < 0 || index >= records.size()) {
            return -1;
        }
        int[] r = records.get(index);
        return what < 5 ? r[what] : r[1] == 0 ? 0 : (int) (1000L * r[2] / r[1]);
    }

    private List<int[]> counted(int channel) {
        return records.stream().filter(r -> r[0] == channel && r[4] == 1).toList();
    }

    public int counting(int channel) {
        cell(channel);
        return counted(channel).size();
    }

    public int loss(int channel) {
        cell(channel);
        List<int[]> mine = counted(channel);
        return mine.size() < 2 ? 0 : mine.get(0)[2] - mine.get(mine.size() - 1)[2];
    }

    public int logSize() {
        return log.size();
    }

    public int logEntry(int index, int what) {
        range(what, 0, 3);
        return index < 0 || index >= log.size() ? -1 : log.get(index)[what];
    }

    public int eventsOf(int channel, int event) {
        cell(channel);
        range(event, 0, 5);
        return (int) log.stream().filter(e -> e[1] == channel && e[2] == event).count();
    }

    // ---- predictions: in a copy

    private PlainModel dream() {
        PlainModel d = new PlainModel();
        d.take(this);
        return d;
    }

    private int first(Cell c, int limit, IntPredicate found) {
        for (int n = 1; n <= limit; n++) {
            if (c.state != 1) {
                return -1;
            }
            boolean ended = tick(c);
            if (found.test(ended ? 1 : 0)) {
                return n;
            }
        }
        return -1;
    }

    public int stepEndsIn(int channel) {
        cell(channel);
        PlainModel d = dream();
        return d.first(d.cell(channel), 20000, ended -> ended == 1);
    }

    public int doneIn(int channel) {
        if (cell(channel).state == 3) {
            return 0;
        }
        PlainModel d = dream();
        Cell c = d.cell(channel);
        return d.first(c, 30000, ended -> c.state == 3);
    }

    public int tripsIn(int channel) {
        cell(channel);
        PlainModel d = dream();
        Cell c = d.cell(channel);
        return d.first(c, 30000, ended -> c.state == 4);
    }

    public int valueAfter(int channel, int what, int ticks) {
        cell(channel);
        range(what, 0, 10);
        range(ticks, 0, 10000);
        PlainModel d = dream();
        for (int n = 0; n < ticks; n++) {
            d.tick(d.cell(channel));
        }
        return number(d.cell(channel), what);
    }

    public int peakTemperature(int channel, int ticks) {
        long most = cell(channel).temp;
        range(ticks, 0, 10000);
        PlainModel d = dream();
        for (int n = 0; n < ticks; n++) {
            d.tick(d.cell(channel));
            most = Math.max(most, d.cell(channel).temp);
        }
        return (int) most;
    }

    public int settledIn(int channel) {
        if (cell(channel).state == 1) {
            return -1;
        }
        PlainModel d = dream();
        int n = 0;
        while (n <= 10000 && d.cell(channel).p != 0) {
            d.tick(d.cell(channel));
            n++;
        }
        return n > 10000 ? -1 : n;
    }

    private Cell instead(int channel, int program) {
        Cell c = cell(channel);
        c.queue.clear();
        begin(c, program);
        return c;
    }

    public int duration(int channel, int program) {
        cell(channel);
        hasProgram(program);
        PlainModel d = dream();
        Cell c = d.instead(channel, program);
        return d.first(c, 30000, ended -> c.state == 3);
    }

    public int shortest(int channel) {
        cell(channel);
        int best = -1;
        int least = Integer.MAX_VALUE;
        for (int k = 0; k < programs.size(); k++) {
            int n = duration(channel, k);
            if (n >= 0 && n < least) {
                best = k;
                least = n;
            }
        }
        return best;
    }

    public int capacityIf(int channel, int program) {
        cell(channel);
        hasProgram(program);
        PlainModel d = dream();
        Cell c = d.instead(channel, program);
        return d.first(c, 30000, ended -> c.state == 3) < 0 ? -1 : c.rule;
    }

    public int safeCurrent(int channel, int ticks) {
        cell(channel);
        range(ticks, 1, 1000);
        int best = -1;
        for (int i = 100; i <= 5000; i += 100) {
            Cell c = cell(channel).copy();
            boolean good = true;
            for (int n = 0; n < ticks && good; n++) {
                flow(c, limited(c, i));
                good = c.u <= set[5] && c.temp <= set[6];
            }
            if (good) {
                best = i;
            } else if (i == 100) {
                return -1;
            }
        }
        return best;
    }

    // ---- snapshots

    private void take(PlainModel from) {
        names = from.names;
        curves = from.curves;
        programs = from.programs;
        cells = new ArrayList<>();
        for (Cell c : from.cells) {
            cells.add(c.copy());
        }
        set = from.set.clone();
        time = from.time;
        records = new ArrayList<>(from.records);
        log = new ArrayList<>(from.log);
    }

    public int saveSnapshot(int slot) {
        range(slot, 0, 1);
        slots[slot] = dream();
        return time;
    }

    public int restoreSnapshot(int slot) {
        range(slot, 0, 1);
        if (slots[slot] == null) {
            return -1;
        }
        take(slots[slot]);
        return time;
    }
}
