/**
 * A cycler for battery cells: channels charge, hold, discharge and rest their cells by the steps of
 * programs. The numbers in brackets in the comments, as (3), are the steps of a tick in section 3 of
 * the document.
 */
public final class CellCycler {
    public static final int NONE = -1;
    public static final int FULL = -2;
    public static final int WRONG_STATE = -3;

    private static final int BUFFER_LIMIT = 800;
    private static final int TIME_LIMIT = 300000;
    private static final int CURVE_LIMIT = 4;
    private static final int POINT_LIMIT = 11;
    private static final int NAME_LIMIT = 6;
    private static final int CHANNEL_LIMIT = 6;
    private static final int PROGRAM_LIMIT = 4;
    private static final int STEP_LIMIT = 12;
    private static final int QUEUE_LIMIT = 4;
    private static final int RECORD_LIMIT = 30;
    private static final int LOG_LIMIT = 60;
    private static final int BAND_LIMIT = 10;
    private static final int SLOT_LIMIT = 2;

    private static final int VOLTAGE_LIMIT = 5000;
    private static final int CURRENT_LIMIT = 5000;
    private static final int STEP_TICKS_LIMIT = 20000;
    private static final int DONE_TICKS_LIMIT = 30000;
    private static final int LOOK_TICKS_LIMIT = 10000;
    private static final int CURRENT_STRIDE = 100;

    private static final int IDLE = 0;
    private static final int RUNNING = 1;
    private static final int PAUSED = 2;
    private static final int DONE = 3;
    private static final int TRIPPED = 4;

    private static final int CHARGE = 0;
    private static final int HOLD = 1;
    private static final int DISCHARGE = 2;
    private static final int REST = 3;
    private static final int REPEAT = 4;

    private static final int EVENT_STARTS = 0;
    private static final int EVENT_STEP_ENDS = 1;
    private static final int EVENT_ALL_ENDED = 2;
    private static final int EVENT_TRIPS = 3;
    private static final int EVENT_WARNING = 4;
    private static final int EVENT_REPLACED = 5;

    private static final int LOG_TIME = 0;
    private static final int LOG_CHANNEL = 1;
    private static final int LOG_EVENT = 2;
    private static final int LOG_NUMBER = 3;
    private static final int LOG_WIDTH = 4;

    private static final int RECORD_CHANNEL = 0;
    private static final int RECORD_IN = 1;
    private static final int RECORD_OUT = 2;
    private static final int RECORD_TIME = 3;
    private static final int RECORD_COUNTS = 4;
    private static final int RECORD_WIDTH = 5;

    private static final int ERROR_PLACE = 1;
    private static final int ERROR_RANGE = 2;
    private static final int ERROR_NAME = 3;
    private static final int ERROR_MANY = 4;

    private final World world;
    /** Descriptions are read into it and predictions run in it, so that the world stays as it is. */
    private final World spare;
    /** A slot is null until something was saved there. */
    private final World[] saved;
    private final int[] buffer;
    private int bufferLength;
    private int latestError;

    public CellCycler() {
        world = new World();
        spare = new World();
        saved = new World[SLOT_LIMIT];
        buffer = new int[BUFFER_LIMIT];
        bufferLength = 0;
        latestError = 0;
    }

    // ---- descriptions

    public int append(long bytes) {
        int more = 0;
        for (int shift = 56; shift >= 0; shift -= 8) {
            if (((bytes >>> shift) & 255) != 0) {
                more++;
            }
        }
        if (bufferLength + more > BUFFER_LIMIT) {
            return FULL;
        }
        for (int shift = 56; shift >= 0; shift -= 8) {
            int one = (int) ((bytes >>> shift) & 255);
            if (one != 0) {
                put(buffer, bufferLength, one);
                bufferLength++;
            }
        }
        return bufferLength;
    }

    public int load() {
        spare.clear();
        Reader reader = new Reader(buffer, bufferLength, spare);
        bufferLength = 0;
        reader.readText();
        latestError = reader.error;
        if (reader.error != 0) {
            return -100 - reader.errorPlace;
        }
        spare.insertCells();
        world.copyFrom(spare);
        return world.channelCount;
    }

    public int loadError() {
        return latestError;
    }

    public int curveNamed() {
        int length = bufferLength;
        bufferLength = 0;
        if (length < 1 || length > NAME_LIMIT) {
            return NONE;
        }
        return world.curves.find(nameCode(buffer, 0, length));
    }

    public int count(int what) throws IllegalArgumentException {
        needRange(what, 0, 2);
        switch (what) {
            case 0:
                return world.channelCount;
            case 1:
                return world.programs.count;
            default:
                return world.curves.count;
        }
    }

    public int setting(int what) throws IllegalArgumentException {
        needRange(what, 0, 7);
        Settings settings = world.settings;
        switch (what) {
            case 0:
                return settings.efficiency;
            case 1:
                return settings.fade;
            case 2:
                return settings.heat;
            case 3:
                return settings.cool;
            case 4:
                return settings.low;
            case 5:
                return settings.high;
            case 6:
                return settings.hot;
            default:
                return settings.ambient;
        }
    }

    public int setAmbient(int temperature) throws IllegalArgumentException {
        needRange(temperature, 0, 500);
        int previous = world.settings.ambient;
        world.settings.ambient = temperature;
        return previous;
    }

    public int setLimits(int low, int high) throws IllegalArgumentException {
        needRange(low, 0, VOLTAGE_LIMIT);
        needRange(high, low, VOLTAGE_LIMIT);
        world.settings.low = low;
        world.settings.high = high;
        int outside = 0;
        for (int k = 0; k < world.channelCount; k++) {
            Channel one = world.channelAt(k);
            if (one != null && one.state == RUNNING
                    && (one.cell.voltage < low || one.cell.voltage > high)) {
                outside++;
            }
        }
        return outside;
    }

    public int setDerate(int span) throws IllegalArgumentException {
        needRange(span, 0, 200);
        int previous = world.settings.span;
        world.settings.span = span;
        return previous;
    }

    public int stepValue(int program, int step, int what)
            throws IndexOutOfBoundsException, IllegalArgumentException {
        needProgram(program);
        needRange(what, 0, 2);
        if (step < 0 || step >= world.programs.stepsOf(program)) {
            return NONE;
        }
        switch (what) {
            case 0:
                return world.programs.kindOf(program, step);
            case 1:
                return world.programs.firstOf(program, step);
            default:
                return world.programs.secondOf(program, step);
        }
    }

    // ---- running

    public int now() {
        return world.time;
    }

    public int advance(int ticks) throws IllegalArgumentException {
        needRange(ticks, 1, 5000);
        if (world.time + ticks > TIME_LIMIT) {
            return FULL;
        }
        int ended = 0;
        for (int n = 0; n < ticks; n++) {
            world.time++;
            for (int k = 0; k < world.channelCount; k++) {
                Channel one = world.channelAt(k);
                if (one != null && one.passTick(world)) {
                    ended++;
                }
            }
        }
        return ended;
    }

    public int start(int channel, int program) throws IndexOutOfBoundsException {
        Channel one = needChannel(channel);
        needProgram(program);
        if (!one.isFree()) {
            return WRONG_STATE;
        }
        one.begin(program, world);
        return Integer.bitCount(world.channelsIn(RUNNING));
    }

    public int pause(int channel) throws IndexOutOfBoundsException {
        Channel one = needChannel(channel);
        if (one.state != RUNNING) {
            return WRONG_STATE;
        }
        one.state = PAUSED;
        return one.step;
    }

    public int resume(int channel) throws IndexOutOfBoundsException {
        Channel one = needChannel(channel);
        if (one.state != PAUSED) {
            return WRONG_STATE;
        }
        one.state = RUNNING;
        return one.step;
    }

    public int stop(int channel) throws IndexOutOfBoundsException {
        Channel one = needChannel(channel);
        int previous = one.state;
        one.state = IDLE;
        return previous;
    }

    public int skip(int channel) throws IndexOutOfBoundsException {
        Channel one = needChannel(channel);
        if (one.state != RUNNING) {
            return WRONG_STATE;
        }
        one.leaveStep(world);
        return one.state == DONE ? NONE : one.step;
    }

    public int replace(int channel, int charge)
            throws IndexOutOfBoundsException, IllegalArgumentException {
        Channel one = needChannel(channel);
        needRange(charge, 0, one.cell.nominal);
        if (one.state == RUNNING || one.state == PAUSED) {
            return WRONG_STATE;
        }
        int previous = one.cell.charge;
        one.insertCell(charge, world.settings.ambient);
        world.note(channel, EVENT_REPLACED, 0);
        return previous;
    }

    public int enqueue(int channel, int program) throws IndexOutOfBoundsException {
        Channel one = needChannel(channel);
        needProgram(program);
        if (one.waiting >= QUEUE_LIMIT) {
            return FULL;
        }
        put(one.queue, one.waiting, program);
        one.waiting++;
        return one.waiting;
    }

    public int dequeue(int channel) throws IndexOutOfBoundsException {
        Channel one = needChannel(channel);
        if (one.waiting == 0) {
            return NONE;
        }
        one.waiting--;
        return at(one.queue, one.waiting);
    }

    public int startNext(int channel) throws IndexOutOfBoundsException {
        Channel one = needChannel(channel);
        if (!one.isFree()) {
            return WRONG_STATE;
        }
        if (one.waiting == 0) {
            return NONE;
        }
        one.begin(one.takeWaiting(), world);
        return one.program;
    }

    public int queueAt(int channel, int index) throws IndexOutOfBoundsException {
        Channel one = needChannel(channel);
        return index < 0 || index >= one.waiting ? NONE : at(one.queue, index);
    }

    public int queueSize(int channel) throws IndexOutOfBoundsException {
        return needChannel(channel).waiting;
    }

    // ---- cells

    public int value(int channel, int what)
            throws IndexOutOfBoundsException, IllegalArgumentException {
        Channel one = needChannel(channel);
        needRange(what, 0, 10);
        return one.number(what);
    }

    public int restVoltage(int channel, int charge)
            throws IndexOutOfBoundsException, IllegalArgumentException {
        Channel one = needChannel(channel);
        needRange(charge, 0, 200000);
        return one.cell.restVoltageAt(charge);
    }

    public int chargeFor(int channel, int voltage)
            throws IndexOutOfBoundsException, IllegalArgumentException {
        Channel one = needChannel(channel);
        needRange(voltage, 0, VOLTAGE_LIMIT);
        return one.cell.smallestChargeFor(voltage);
    }

    public int filling(int channel) throws IndexOutOfBoundsException {
        return needChannel(channel).cell.thousandths();
    }

    public long ledger(int channel, int what)
            throws IndexOutOfBoundsException, IllegalArgumentException {
        Channel one = needChannel(channel);
        needRange(what, 0, 4);
        switch (what) {
            case 0:
                return one.cell.books.chargeIn;
            case 1:
                return one.cell.books.chargeOut;
            case 2:
                return one.cell.through;
            case 3:
                return one.cell.books.energyIn;
            default:
                return one.cell.books.energyOut;
        }
    }

    public float chargeEfficiency(int channel) throws IndexOutOfBoundsException {
        Ledger books = needChannel(channel).cell.books;
        return books.chargeIn == 0 ? 0.0f : (float) books.chargeOut / (float) books.chargeIn;
    }

    public double energyEfficiency(int channel) throws IndexOutOfBoundsException {
        Ledger books = needChannel(channel).cell.books;
        return books.energyIn == 0 ? 0.0 : (double) books.energyOut / (double) books.energyIn;
    }

    public int power(int channel) throws IndexOutOfBoundsException {
        Cell cell = needChannel(channel).cell;
        return (int) ((long) cell.current * cell.voltage / 1000);
    }

    public int measuredRest(int channel) throws IndexOutOfBoundsException {
        return needChannel(channel).meter.rest;
    }

    public int capacityByRule(int channel) throws IndexOutOfBoundsException {
        return needChannel(channel).meter.capacity;
    }

    public int internalResistance(int channel) throws IndexOutOfBoundsException {
        return needChannel(channel).meter.resistance;
    }

    public int ticksIn(int channel, int band)
            throws IndexOutOfBoundsException, IllegalArgumentException {
        Channel one = needChannel(channel);
        needRange(band, 0, BAND_LIMIT - 1);
        return at(one.meter.bands, band);
    }

    public int warnings(int channel) throws IndexOutOfBoundsException {
        return needChannel(channel).meter.warningCount;
    }

    public int warned(int channel) throws IndexOutOfBoundsException {
        return needChannel(channel).meter.warnedFor;
    }

    public int repeats(int channel, int step) throws IndexOutOfBoundsException {
        return at(needChannel(channel).timesBack, step);
    }

    public int inState(int state) throws IllegalArgumentException {
        needRange(state, IDLE, TRIPPED);
        return world.channelsIn(state);
    }

    public int weakest() {
        int found = NONE;
        long least = 0;
        for (int k = 0; k < world.channelCount; k++) {
            Channel one = world.channelAt(k);
            if (one == null) {
                continue;
            }
            long left = quotient(1000L * one.cell.capacity, one.cell.nominal);
            if (found == NONE || left < least) {
                found = k;
                least = left;
            }
        }
        return found;
    }

    public int hottest() {
        int found = NONE;
        int most = 0;
        for (int k = 0; k < world.channelCount; k++) {
            Channel one = world.channelAt(k);
            if (one != null && (found == NONE || one.cell.temperature > most)) {
                found = k;
                most = one.cell.temperature;
            }
        }
        return found;
    }

    // ---- records

    public int recordCount() {
        return world.records.size;
    }

    public int record(int index, int what) throws IllegalArgumentException {
        needRange(what, 0, 5);
        Table records = world.records;
        if (index < 0 || index >= records.size) {
            return NONE;
        }
        if (what < RECORD_WIDTH) {
            return records.get(index, what);
        }
        return (int) quotient(1000L * records.get(index, RECORD_OUT), records.get(index, RECORD_IN));
    }

    public int counting(int channel) throws IndexOutOfBoundsException {
        needChannel(channel);
        int found = 0;
        for (int k = 0; k < world.records.size; k++) {
            if (world.recordCounts(k, channel)) {
                found++;
            }
        }
        return found;
    }

    public int loss(int channel) throws IndexOutOfBoundsException {
        needChannel(channel);
        int oldest = NONE;
        int latest = NONE;
        for (int k = 0; k < world.records.size; k++) {
            if (world.recordCounts(k, channel)) {
                oldest = oldest == NONE ? k : oldest;
                latest = k;
            }
        }
        if (oldest == latest) {
            return 0;
        }
        return world.records.get(oldest, RECORD_OUT) - world.records.get(latest, RECORD_OUT);
    }

    public int logSize() {
        return world.log.size;
    }

    public int logEntry(int index, int what) throws IllegalArgumentException {
        needRange(what, 0, LOG_WIDTH - 1);
        return index < 0 || index >= world.log.size ? NONE : world.log.get(index, what);
    }

    public int eventsOf(int channel, int event)
            throws IndexOutOfBoundsException, IllegalArgumentException {
        needChannel(channel);
        needRange(event, EVENT_STARTS, EVENT_REPLACED);
        int found = 0;
        for (int k = 0; k < world.log.size; k++) {
            if (world.log.get(k, LOG_CHANNEL) == channel && world.log.get(k, LOG_EVENT) == event) {
                found++;
            }
        }
        return found;
    }

    // ---- predictions

    public int stepEndsIn(int channel) throws IndexOutOfBoundsException {
        Channel trial = needTrial(channel);
        for (int n = 1; n <= STEP_TICKS_LIMIT && trial.state == RUNNING; n++) {
            if (trial.passTick(spare)) {
                return n;
            }
        }
        return NONE;
    }

    public int doneIn(int channel) throws IndexOutOfBoundsException {
        Channel trial = needTrial(channel);
        return trial.state == DONE ? 0 : ticksUntil(trial, DONE);
    }

    public int tripsIn(int channel) throws IndexOutOfBoundsException {
        return ticksUntil(needTrial(channel), TRIPPED);
    }

    public int valueAfter(int channel, int what, int ticks)
            throws IndexOutOfBoundsException, IllegalArgumentException {
        Channel trial = needTrial(channel);
        needRange(what, 0, 10);
        needRange(ticks, 0, LOOK_TICKS_LIMIT);
        for (int n = 0; n < ticks; n++) {
            trial.passTick(spare);
        }
        return trial.number(what);
    }

    public int peakTemperature(int channel, int ticks)
            throws IndexOutOfBoundsException, IllegalArgumentException {
        Channel trial = needTrial(channel);
        needRange(ticks, 0, LOOK_TICKS_LIMIT);
        int peak = trial.cell.temperature;
        for (int n = 0; n < ticks; n++) {
            trial.passTick(spare);
            peak = Math.max(peak, trial.cell.temperature);
        }
        return peak;
    }

    public int settledIn(int channel) throws IndexOutOfBoundsException {
        Channel trial = needTrial(channel);
        if (trial.state == RUNNING) {
            return NONE;
        }
        for (int n = 0; n < LOOK_TICKS_LIMIT; n++) {
            if (trial.cell.polarization == 0) {
                return n;
            }
            trial.passTick(spare);
        }
        return trial.cell.polarization == 0 ? LOOK_TICKS_LIMIT : NONE;
    }

    public int duration(int channel, int program) throws IndexOutOfBoundsException {
        needChannel(channel);
        needProgram(program);
        return ticksUntil(needTrialOf(channel, program), DONE);
    }

    public int shortest(int channel) throws IndexOutOfBoundsException {
        needChannel(channel);
        int found = NONE;
        int least = 0;
        for (int program = 0; program < world.programs.count; program++) {
            int ticks = ticksUntil(needTrialOf(channel, program), DONE);
            if (ticks != NONE && (found == NONE || ticks < least)) {
                found = program;
                least = ticks;
            }
        }
        return found;
    }

    public int capacityIf(int channel, int program) throws IndexOutOfBoundsException {
        needChannel(channel);
        needProgram(program);
        Channel trial = needTrialOf(channel, program);
        return ticksUntil(trial, DONE) == NONE ? NONE : trial.meter.capacity;
    }

    public int safeCurrent(int channel, int ticks)
            throws IndexOutOfBoundsException, IllegalArgumentException {
        Cell cell = needChannel(channel).cell;
        needRange(ticks, 1, 1000);
        Cell trial = needTrial(channel).cell;
        // With derating a greater current may be safe where 100 is not: then the answer is NONE too.
        if (!isSafe(trial, CURRENT_STRIDE, ticks)) {
            return NONE;
        }
        for (int i = CURRENT_LIMIT; i > CURRENT_STRIDE; i -= CURRENT_STRIDE) {
            trial.copyFrom(cell);
            if (isSafe(trial, i, ticks)) {
                return i;
            }
        }
        return CURRENT_STRIDE;
    }

    public int saveSnapshot(int slot) throws IllegalArgumentException {
        needRange(slot, 0, SLOT_LIMIT - 1);
        World copy = savedAt(slot);
        if (copy == null) {
            copy = new World();
            keepAt(slot, copy);
        }
        copy.copyFrom(world);
        return world.time;
    }

    public int restoreSnapshot(int slot) throws IllegalArgumentException {
        needRange(slot, 0, SLOT_LIMIT - 1);
        World copy = savedAt(slot);
        if (copy == null) {
            return NONE;
        }
        world.copyFrom(copy);
        return world.time;
    }

    // ---- what the calls share

    private static void needRange(int number, int low, int high) {
        if (number < low || number > high) {
            throw new IllegalArgumentException();
        }
    }

    private Channel needChannel(int channel) {
        Channel one = world.channelAt(channel);
        if (one == null) {
            throw new IndexOutOfBoundsException();
        }
        return one;
    }

    private void needProgram(int program) {
        if (program < 0 || program >= world.programs.count) {
            throw new IndexOutOfBoundsException();
        }
    }

    /** The channel in a fresh copy of everything, where ticks may pass that change nothing here. */
    private Channel needTrial(int channel) {
        spare.copyFrom(world);
        Channel trial = spare.channelAt(channel);
        if (trial == null) {
            throw new IndexOutOfBoundsException();
        }
        return trial;
    }

    /** The channel in a fresh copy, where a program is started in place of what it does. */
    private Channel needTrialOf(int channel, int program) {
        Channel trial = needTrial(channel);
        trial.waiting = 0;
        trial.begin(program, spare);
        return trial;
    }

    private int ticksUntil(Channel trial, int state) {
        for (int n = 1; n <= DONE_TICKS_LIMIT && trial.state == RUNNING; n++) {
            trial.passTick(spare);
            if (trial.state == state) {
                return n;
            }
        }
        return NONE;
    }

    private boolean isSafe(Cell trial, int i, int ticks) {
        Settings settings = spare.settings;
        for (int n = 0; n < ticks; n++) {
            trial.passCurrent(trial.allowed(i, settings), settings);
            if (trial.voltage > settings.high || trial.temperature > settings.hot) {
                return false;
            }
        }
        return true;
    }

    private World savedAt(int slot) {
        return slot < 0 || slot >= saved.length ? null : saved[slot];
    }

    private void keepAt(int slot, World copy) {
        if (slot >= 0 && slot < saved.length) {
            saved[slot] = copy;
        }
    }

    // ---- arithmetic and rows that never throw

    private static int at(int[] row, int index) {
        return index < 0 || index >= row.length ? 0 : row[index];
    }

    private static void put(int[] row, int index, int number) {
        if (index >= 0 && index < row.length) {
            row[index] = number;
        }
    }

    private static void copyRow(int[] from, int[] to) {
        System.arraycopy(from, 0, to, 0, Math.min(from.length, to.length));
    }

    private static void clearRow(int[] row) {
        for (int k = 0; k < row.length; k++) {
            row[k] = 0;
        }
    }

    private static long quotient(long number, long divisor) {
        return divisor == 0 ? 0 : number / divisor;
    }

    private static long remainder(long number, long divisor) {
        return divisor == 0 ? 0 : number % divisor;
    }

    /** A name as one number: its bytes are never 0, so different names have different numbers. */
    private static long nameCode(int[] text, int from, int to) {
        long code = 0;
        for (int k = from; k < to; k++) {
            code = code * 256 + at(text, k);
        }
        return code;
    }

    /** The numbers that hold for all channels. */
    private static final class Settings {
        private int efficiency;
        private int fade;
        private int heat;
        private int cool;
        private int low;
        private int high;
        private int hot;
        private int ambient;
        private int warnLow;
        private int warnHigh;
        private int warnHot;
        private int span;

        private Settings() {
            clear();
        }

        private void clear() {
            efficiency = 990;
            fade = 100000;
            heat = 100;
            cool = 5;
            low = 0;
            high = 5000;
            hot = 600;
            ambient = 250;
            warnLow = 0;
            warnHigh = 5000;
            warnHot = 1000;
            span = 0;
        }

        private void copyFrom(Settings other) {
            efficiency = other.efficiency;
            fade = other.fade;
            heat = other.heat;
            cool = other.cool;
            low = other.low;
            high = other.high;
            hot = other.hot;
            ambient = other.ambient;
            warnLow = other.warnLow;
            warnHigh = other.warnHigh;
            warnHot = other.warnHot;
            span = other.span;
        }
    }

    /** The curves of rest voltages, by number. */
    private static final class Curves {
        private int count;
        private final long[] names;
        private final int[] points;
        private final int[] voltages;

        private Curves() {
            names = new long[CURVE_LIMIT];
            points = new int[CURVE_LIMIT];
            voltages = new int[CURVE_LIMIT * POINT_LIMIT];
        }

        private int find(long name) {
            for (int k = 0; k < count && k < names.length; k++) {
                if (names[k] == name) {
                    return k;
                }
            }
            return NONE;
        }

        private void add(long name) {
            if (count >= 0 && count < names.length) {
                names[count] = name;
                put(points, count, 0);
                count++;
            }
        }

        private void addVoltageToLast(int voltage) {
            int last = count - 1;
            int point = at(points, last);
            put(voltages, last * POINT_LIMIT + point, voltage);
            put(points, last, point + 1);
        }

        private int voltageOf(int curve, int point) {
            return at(voltages, curve * POINT_LIMIT + point);
        }

        private void copyFrom(Curves other) {
            count = other.count;
            System.arraycopy(other.names, 0, names, 0, Math.min(other.names.length, names.length));
            copyRow(other.points, points);
            copyRow(other.voltages, voltages);
        }
    }

    /** The steps of all programs. */
    private static final class Programs {
        private int count;
        private final int[] steps;
        private final int[] kinds;
        private final int[] firsts;
        private final int[] seconds;

        private Programs() {
            steps = new int[PROGRAM_LIMIT];
            kinds = new int[PROGRAM_LIMIT * STEP_LIMIT];
            firsts = new int[PROGRAM_LIMIT * STEP_LIMIT];
            seconds = new int[PROGRAM_LIMIT * STEP_LIMIT];
        }

        private void add() {
            put(steps, count, 0);
            count++;
        }

        private void addStepToLast(int kind, int first, int second) {
            int last = count - 1;
            int place = last * STEP_LIMIT + at(steps, last);
            put(kinds, place, kind);
            put(firsts, place, first);
            put(seconds, place, second);
            put(steps, last, at(steps, last) + 1);
        }

        private int stepsOf(int program) {
            return at(steps, program);
        }

        private int kindOf(int program, int step) {
            return at(kinds, program * STEP_LIMIT + step);
        }

        private int firstOf(int program, int step) {
            return at(firsts, program * STEP_LIMIT + step);
        }

        private int secondOf(int program, int step) {
            return at(seconds, program * STEP_LIMIT + step);
        }

        private void copyFrom(Programs other) {
            count = other.count;
            copyRow(other.steps, steps);
            copyRow(other.kinds, kinds);
            copyRow(other.firsts, firsts);
            copyRow(other.seconds, seconds);
        }
    }

    /** Rows of numbers in the order in which they came; the oldest gives way when it is full. */
    private static final class Table {
        private final int limit;
        private final int width;
        private final int[] numbers;
        private int oldest;
        private int size;

        private Table(int rows, int columns) {
            limit = Math.max(1, rows);
            width = Math.max(1, columns);
            numbers = new int[Math.max(1, limit * width)];
        }

        private void clear() {
            oldest = 0;
            size = 0;
        }

        /** Makes room for a row at the end. */
        private void addRow() {
            if (size < limit) {
                size++;
            } else {
                oldest = oldest + 1 < limit ? oldest + 1 : 0;
            }
        }

        private int get(int row, int column) {
            return at(numbers, placeOf(row) + column);
        }

        /** Where the numbers of a row begin. */
        private int placeOf(int row) {
            int slot = oldest + row;
            return (slot < limit ? slot : slot - limit) * width;
        }

        private void copyFrom(Table other) {
            oldest = other.oldest;
            size = other.size;
            copyRow(other.numbers, numbers);
        }
    }

    /** What went in and out of a cell since it was put in. */
    private static final class Ledger {
        private long chargeIn;
        private long chargeOut;
        private long energyIn;
        private long energyOut;

        private void clear() {
            chargeIn = 0;
            chargeOut = 0;
            energyIn = 0;
            energyOut = 0;
        }

        private void copyFrom(Ledger other) {
            chargeIn = other.chargeIn;
            chargeOut = other.chargeOut;
            energyIn = other.energyIn;
            energyOut = other.energyOut;
        }
    }

    /** A cell: its make, and what a current does to it. */
    private static final class Cell {
        private final int[] curve;
        private int points;
        private int nominal;
        private int ohms;
        private int polar;
        private int tau;

        private int charge;
        private int leftOver;
        private int capacity;
        private int through;
        private int polarization;
        private int temperature;
        private int heat;
        private int current;
        private int voltage;
        private final Ledger books;

        private Cell() {
            curve = new int[POINT_LIMIT];
            books = new Ledger();
        }

        private void takeCurve(Curves curves, int number) {
            points = at(curves.points, number);
            for (int k = 0; k < points; k++) {
                put(curve, k, curves.voltageOf(number, k));
            }
        }

        private void renew(int newCharge, int ambient) {
            charge = newCharge;
            leftOver = 0;
            capacity = nominal;
            through = 0;
            polarization = 0;
            temperature = ambient;
            heat = 0;
            current = 0;
            voltage = 0;
            books.clear();
        }

        private int restVoltageAt(int someCharge) {
            long scaled = (long) someCharge * (points - 1);
            int k = (int) Math.min(quotient(scaled, capacity), points - 2);
            long rise = at(curve, k + 1) - at(curve, k);
            return (int) (at(curve, k) + quotient(rise * (scaled - (long) k * capacity), capacity));
        }

        private int smallestChargeFor(int someVoltage) {
            if (restVoltageAt(capacity) < someVoltage) {
                return NONE;
            }
            // The rest voltage never falls as the charge rises, so halving finds the first one.
            int low = 0;
            int high = capacity;
            for (int n = 0; n < 32 && low < high; n++) {
                int middle = (low + high) / 2;
                if (restVoltageAt(middle) < someVoltage) {
                    low = middle + 1;
                } else {
                    high = middle;
                }
            }
            return low;
        }

        private int thousandths() {
            return (int) quotient(1000L * charge, capacity);
        }

        /** The current that holds a voltage. */
        private int holding(int held) {
            long missing = (long) held - restVoltageAt(charge) - polarization;
            long i = quotient(missing * 1000, ohms);
            return (int) Math.max(0, Math.min(i, CURRENT_LIMIT));
        }

        /** What the temperature and the charge leave of a wanted current: the end of (1). */
        private int allowed(int wanted, Settings settings) {
            int i = wanted;
            if (settings.span != 0 && temperature > settings.hot - settings.span) {
                long room = Math.max(0, settings.hot - temperature);
                i = (int) quotient(i * room, settings.span);
            }
            return i < 0 && -i > charge ? -charge : i;
        }

        /** (2) to (6) of a tick. */
        private void passCurrent(int i, Settings settings) {
            polarize(i);
            moveCharge(i, settings);
            wear(i, settings);
            warm(i, settings);
            current = i;
            voltage = restVoltageAt(charge) + i * ohms / 1000 + polarization;
            if (i > 0) {
                books.energyIn += (long) i * voltage;
            } else {
                books.energyOut += -(long) i * voltage;
            }
        }

        private void polarize(int i) {
            int goal = i * polar / 1000;
            int change = (int) quotient(goal - polarization, tau);
            if (change == 0) {
                change = Integer.compare(goal, polarization);
            }
            polarization += change;
        }

        private void moveCharge(int i, Settings settings) {
            if (i > 0) {
                books.chargeIn += i;
                int sum = i * settings.efficiency + leftOver;
                charge = Math.min(charge + sum / 1000, 2 * nominal);
                leftOver = sum % 1000;
            } else {
                charge += i;
                books.chargeOut -= i;
            }
        }

        private void wear(int i, Settings settings) {
            through += i < 0 ? -i : i;
            int worn = (int) quotient(through, settings.fade);
            capacity = Math.max(capacity - worn, nominal / 2);
            through = (int) remainder(through, settings.fade);
        }

        private void warm(int i, Settings settings) {
            heat += i * i / 1000 * ohms / 1000 - (temperature - settings.ambient) * settings.cool;
            temperature += (int) quotient(heat, settings.heat);
            heat = (int) remainder(heat, settings.heat);
        }

        private void copyFrom(Cell other) {
            copyRow(other.curve, curve);
            points = other.points;
            nominal = other.nominal;
            ohms = other.ohms;
            polar = other.polar;
            tau = other.tau;
            charge = other.charge;
            leftOver = other.leftOver;
            capacity = other.capacity;
            through = other.through;
            polarization = other.polarization;
            temperature = other.temperature;
            heat = other.heat;
            current = other.current;
            voltage = other.voltage;
            books.copyFrom(other.books);
        }
    }

    /** What was measured and counted on a channel. */
    private static final class Meter {
        private int rest;
        private int capacity;
        private int resistance;
        private int tripReason;
        private int warnedFor;
        private int warningCount;
        private final int[] bands;

        private Meter() {
            bands = new int[BAND_LIMIT];
        }

        private void clear() {
            rest = NONE;
            capacity = NONE;
            resistance = NONE;
            tripReason = 0;
            warnedFor = 0;
            warningCount = 0;
            clearRow(bands);
        }

        private void countFilling(int thousandths) {
            int band = Math.min(thousandths / 100, BAND_LIMIT - 1);
            put(bands, band, at(bands, band) + 1);
        }

        private void copyFrom(Meter other) {
            rest = other.rest;
            capacity = other.capacity;
            resistance = other.resistance;
            tripReason = other.tripReason;
            warnedFor = other.warnedFor;
            warningCount = other.warningCount;
            copyRow(other.bands, bands);
        }
    }

    /** A channel: its cell, and the program that it runs on it. */
    private static final class Channel {
        private final int index;
        private final Cell cell;
        private final Meter meter;
        private int state;
        private int program;
        private int step;
        private int lasted;
        private final int[] timesBack;
        private final int[] queue;
        private int waiting;
        /** Where the ledgers stood at the record before, or at the start of the program. */
        private long baseIn;
        private long baseOut;
        private boolean heldSince;
        /** What had gone out when the present step came. */
        private long stepBaseOut;

        private Channel(int number) {
            index = number;
            cell = new Cell();
            meter = new Meter();
            timesBack = new int[STEP_LIMIT];
            queue = new int[QUEUE_LIMIT];
        }

        private void insertCell(int charge, int ambient) {
            cell.renew(charge, ambient);
            meter.clear();
            state = IDLE;
            program = NONE;
            step = 0;
            lasted = 0;
            clearRow(timesBack);
            waiting = 0;
            baseIn = 0;
            baseOut = 0;
            heldSince = false;
            stepBaseOut = 0;
        }

        private boolean isFree() {
            return state == IDLE || state == DONE;
        }

        private int number(int what) {
            boolean inStep = state == RUNNING || state == PAUSED || state == TRIPPED;
            switch (what) {
                case 0:
                    return state;
                case 1:
                    return program;
                case 2:
                    return inStep ? step : NONE;
                case 3:
                    return inStep ? lasted : 0;
                case 4:
                    return cell.current;
                case 5:
                    return cell.voltage;
                case 6:
                    return cell.charge;
                case 7:
                    return cell.capacity;
                case 8:
                    return cell.polarization;
                case 9:
                    return cell.temperature;
                default:
                    return meter.tripReason;
            }
        }

        private void begin(int newProgram, World world) {
            state = RUNNING;
            program = newProgram;
            clearRow(timesBack);
            countFromHere();
            world.note(index, EVENT_STARTS, newProgram);
            enterStep(0);
        }

        private void countFromHere() {
            baseIn = cell.books.chargeIn;
            baseOut = cell.books.chargeOut;
            heldSince = false;
        }

        private void enterStep(int newStep) {
            step = newStep;
            lasted = 0;
            stepBaseOut = cell.books.chargeOut;
        }

        private int takeWaiting() {
            int taken = at(queue, 0);
            for (int k = 1; k < waiting; k++) {
                put(queue, k - 1, at(queue, k));
            }
            waiting = Math.max(0, waiting - 1);
            return taken;
        }

        /** A tick of this channel; returns whether its step ended. */
        private boolean passTick(World world) {
            int currentBefore = cell.current;
            int voltageBefore = cell.voltage;
            cell.passCurrent(cell.allowed(wantedCurrent(world), world.settings), world.settings);
            meter.countFilling(cell.thousandths());
            if (state != RUNNING) {
                meter.warnedFor = 0;
                return false;
            }
            if (lasted == 0 && cell.current != currentBefore) {
                meter.resistance = (int) quotient(1000L * (cell.voltage - voltageBefore),
                        cell.current - currentBefore);
            }
            lasted++;
            warn(world);
            boolean ends = stepEnds(world.programs);
            int reason = tripReason(world.settings, ends);
            if (reason != 0) {
                trip(reason, world);
                return false;
            }
            if (ends) {
                measureEnd(world);
                leaveStep(world);
            }
            return ends;
        }

        private int wantedCurrent(World world) {
            if (state != RUNNING) {
                return 0;
            }
            int first = world.programs.firstOf(program, step);
            switch (world.programs.kindOf(program, step)) {
                case CHARGE:
                    return first;
                case HOLD:
                    return cell.holding(first);
                case DISCHARGE:
                    return -first;
                default:
                    return 0;
            }
        }

        private void warn(World world) {
            Settings settings = world.settings;
            int reason = 0;
            if (cell.voltage > settings.warnHigh) {
                reason = 1;
            } else if (cell.voltage < settings.warnLow) {
                reason = 2;
            } else if (cell.temperature > settings.warnHot) {
                reason = 3;
            }
            if (reason != 0 && reason != meter.warnedFor) {
                meter.warningCount++;
                world.note(index, EVENT_WARNING, reason);
            }
            meter.warnedFor = reason;
        }

        private int tripReason(Settings settings, boolean ends) {
            if (cell.voltage > settings.high) {
                return 1;
            }
            if (cell.voltage < settings.low) {
                return 2;
            }
            if (cell.temperature > settings.hot) {
                return 3;
            }
            return lasted >= STEP_TICKS_LIMIT && !ends ? 4 : 0;
        }

        private void trip(int reason, World world) {
            state = TRIPPED;
            meter.tripReason = reason;
            world.note(index, EVENT_TRIPS, reason);
        }

        private boolean stepEnds(Programs programs) {
            int first = programs.firstOf(program, step);
            int second = programs.secondOf(program, step);
            switch (programs.kindOf(program, step)) {
                case CHARGE:
                    return cell.voltage >= second;
                case HOLD:
                    return cell.current <= second;
                case DISCHARGE:
                    return cell.voltage <= second || cell.charge == 0;
                default:
                    return lasted >= first;
            }
        }

        /** What only a step that ends by itself brings: records and measurements (section 4). */
        private void measureEnd(World world) {
            switch (world.programs.kindOf(program, step)) {
                case HOLD:
                    heldSince = true;
                    break;
                case DISCHARGE:
                    makeRecord(world);
                    break;
                case REST:
                    meter.rest = cell.voltage;
                    break;
                default:
                    break;
            }
        }

        private void makeRecord(World world) {
            Ledger books = cell.books;
            boolean byVoltage = cell.voltage <= world.programs.secondOf(program, step);
            boolean counts = heldSince && byVoltage;
            Table records = world.records;
            records.addRow();
            int[] numbers = records.numbers;
            int place = records.placeOf(records.size - 1);
            put(numbers, place + RECORD_CHANNEL, index);
            put(numbers, place + RECORD_IN, (int) (books.chargeIn - baseIn));
            put(numbers, place + RECORD_OUT, (int) (books.chargeOut - baseOut));
            put(numbers, place + RECORD_TIME, world.time);
            put(numbers, place + RECORD_COUNTS, counts ? 1 : 0);
            if (counts) {
                meter.capacity = (int) (books.chargeOut - stepBaseOut);
            }
            countFromHere();
        }

        /** The step ends and the one behind it comes. */
        private void leaveStep(World world) {
            world.note(index, EVENT_STEP_ENDS, step);
            int next = stepBehind(world.programs);
            if (next < world.programs.stepsOf(program)) {
                enterStep(next);
                return;
            }
            world.note(index, EVENT_ALL_ENDED, 0);
            if (waiting > 0) {
                begin(takeWaiting(), world);
            } else {
                state = DONE;
            }
        }

        /** Follows the repeat steps, which take no tick, to the next other step or behind the last. */
        private int stepBehind(Programs programs) {
            int next = step + 1;
            // A repeat that is passed has number 0 and goes back when it comes again, so that
            // no two ticks have more repeats between them than once down and once up the steps.
            for (int n = 0; n < 4 * STEP_LIMIT; n++) {
                if (next >= programs.stepsOf(program) || programs.kindOf(program, next) != REPEAT) {
                    break;
                }
                int times = at(timesBack, next);
                if (times < programs.secondOf(program, next)) {
                    put(timesBack, next, times + 1);
                    next = programs.firstOf(program, next);
                } else {
                    put(timesBack, next, 0);
                    next++;
                }
            }
            return next;
        }

        private void copyFrom(Channel other) {
            cell.copyFrom(other.cell);
            meter.copyFrom(other.meter);
            state = other.state;
            program = other.program;
            step = other.step;
            lasted = other.lasted;
            copyRow(other.timesBack, timesBack);
            copyRow(other.queue, queue);
            waiting = other.waiting;
            baseIn = other.baseIn;
            baseOut = other.baseOut;
            heldSince = other.heldSince;
            stepBaseOut = other.stepBaseOut;
        }
    }

    /** Everything that a snapshot contains. */
    private static final class World {
        private int time;
        private final Settings settings;
        private final Curves curves;
        private final Programs programs;
        private int channelCount;
        private final Channel[] channels;
        private final Table records;
        private final Table log;

        private World() {
            settings = new Settings();
            curves = new Curves();
            programs = new Programs();
            channels = new Channel[CHANNEL_LIMIT];
            for (int k = 0; k < channels.length; k++) {
                channels[k] = new Channel(k);
            }
            records = new Table(RECORD_LIMIT, RECORD_WIDTH);
            log = new Table(LOG_LIMIT, LOG_WIDTH);
        }

        private void clear() {
            time = 0;
            settings.clear();
            curves.count = 0;
            programs.count = 0;
            channelCount = 0;
            records.clear();
            log.clear();
        }

        /** The channel of this number; null if there is none. */
        private Channel channelAt(int number) {
            if (number < 0 || number >= channelCount || number >= channels.length) {
                return null;
            }
            return channels[number];
        }

        /** The sum of 2^k over the channels k in a state. */
        private int channelsIn(int state) {
            int sum = 0;
            for (int k = 0; k < channelCount; k++) {
                Channel one = channelAt(k);
                if (one != null && one.state == state) {
                    sum |= 1 << k;
                }
            }
            return sum;
        }

        private void insertCells() {
            for (int k = 0; k < channelCount; k++) {
                Channel one = channelAt(k);
                if (one != null) {
                    one.insertCell(one.cell.nominal / 2, settings.ambient);
                }
            }
        }

        private void note(int channel, int event, int number) {
            log.addRow();
            int place = log.placeOf(log.size - 1);
            put(log.numbers, place + LOG_TIME, time);
            put(log.numbers, place + LOG_CHANNEL, channel);
            put(log.numbers, place + LOG_EVENT, event);
            put(log.numbers, place + LOG_NUMBER, number);
        }

        private boolean recordCounts(int row, int channel) {
            return records.get(row, RECORD_CHANNEL) == channel && records.get(row, RECORD_COUNTS) == 1;
        }

        private void copyFrom(World other) {
            time = other.time;
            settings.copyFrom(other.settings);
            curves.copyFrom(other.curves);
            programs.copyFrom(other.programs);
            channelCount = other.channelCount;
            for (int k = 0; k < channelCount; k++) {
                Channel from = other.channelAt(k);
                Channel to = channelAt(k);
                if (from != null && to != null) {
                    to.copyFrom(from);
                }
            }
            records.copyFrom(other.records);
            log.copyFrom(other.log);
        }
    }

    /** Reads a description from left to right; behind the first error it reads no more. */
    private static final class Reader {
        private final int[] text;
        private final int length;
        private final World target;
        private int place;
        private int wordStart;
        private int error;
        private int errorPlace;

        private Reader(int[] bytes, int byteCount, World world) {
            text = bytes;
            length = byteCount;
            target = world;
        }

        private void readText() {
            // Every statement takes its word at least, so there are never more than length of them.
            for (int n = 0; n <= length; n++) {
                readWord();
                if (wordIs("curve")) {
                    readCurve();
                } else if (wordIs("cell")) {
                    readCell();
                } else if (wordIs("program")) {
                    readProgram();
                } else {
                    readSetting(target.settings);
                }
                skipSpaces();
                if (error != 0 || next() != ';') {
                    break;
                }
                place++;
            }
            if (place < length) {
                fail(ERROR_PLACE, place);
            }
        }

        private void readSetting(Settings settings) {
            if (wordIs("efficiency")) {
                settings.efficiency = readNumber(500, 1000);
            } else if (wordIs("fade")) {
                settings.fade = readNumber(100, 1000000);
            } else if (wordIs("heat")) {
                settings.heat = readNumber(1, 10000);
                settings.cool = readNumber(0, Math.min(100, settings.heat));
            } else if (wordIs("limits")) {
                settings.low = readNumber(0, VOLTAGE_LIMIT);
                settings.high = readNumber(settings.low, VOLTAGE_LIMIT);
                settings.hot = readNumber(250, 1000);
            } else if (wordIs("ambient")) {
                settings.ambient = readNumber(0, 500);
            } else if (wordIs("warn")) {
                settings.warnLow = readNumber(0, VOLTAGE_LIMIT);
                settings.warnHigh = readNumber(settings.warnLow, VOLTAGE_LIMIT);
                settings.warnHot = readNumber(0, 1000);
            } else if (wordIs("derate")) {
                settings.span = readNumber(0, 200);
            } else {
                fail(ERROR_PLACE, wordStart);
            }
        }

        private void readCurve() {
            Curves curves = target.curves;
            if (curves.count >= CURVE_LIMIT) {
                fail(ERROR_MANY, wordStart);
                return;
            }
            readWord();
            long name = nameCode(text, wordStart, place);
            if (place - wordStart > NAME_LIMIT || curves.find(name) != NONE) {
                fail(ERROR_NAME, wordStart);
            }
            curves.add(name);
            int voltage = 0;
            for (int n = 0; n < POINT_LIMIT && error == 0; n++) {
                skipSpaces();
                if (n >= 2 && !isDigit(next())) {
                    return;
                }
                voltage = readNumber(voltage, VOLTAGE_LIMIT);
                curves.addVoltageToLast(voltage);
            }
        }

        private void readCell() {
            if (target.channelCount >= CHANNEL_LIMIT) {
                fail(ERROR_MANY, wordStart);
                return;
            }
            readWord();
            boolean tooLong = place - wordStart > NAME_LIMIT;
            int curve = target.curves.find(nameCode(text, wordStart, place));
            if (tooLong || curve == NONE) {
                fail(ERROR_NAME, wordStart);
                return;
            }
            target.channelCount++;
            Channel one = target.channelAt(target.channelCount - 1);
            if (one != null) {
                Cell cell = one.cell;
                cell.takeCurve(target.curves, curve);
                cell.nominal = readNumber(100, 100000);
                cell.ohms = readNumber(1, 500);
                cell.polar = readNumber(0, 500);
                cell.tau = readNumber(1, 200);
            }
        }

        private void readProgram() {
            Programs programs = target.programs;
            if (programs.count >= PROGRAM_LIMIT) {
                fail(ERROR_MANY, wordStart);
                return;
            }
            programs.add();
            for (int n = 0; n < STEP_LIMIT && error == 0; n++) {
                skipSpaces();
                if (n >= 1 && !isLetter(next())) {
                    return;
                }
                readWord();
                readStep(programs, n);
            }
        }

        private void readStep(Programs programs, int step) {
            int first;
            if (wordIs("charge")) {
                first = readNumber(1, CURRENT_LIMIT);
                programs.addStepToLast(CHARGE, first, readNumber(0, VOLTAGE_LIMIT));
            } else if (wordIs("hold")) {
                first = readNumber(0, VOLTAGE_LIMIT);
                programs.addStepToLast(HOLD, first, readNumber(1, CURRENT_LIMIT));
            } else if (wordIs("discharge")) {
                first = readNumber(1, CURRENT_LIMIT);
                programs.addStepToLast(DISCHARGE, first, readNumber(0, VOLTAGE_LIMIT));
            } else if (wordIs("rest")) {
                programs.addStepToLast(REST, readNumber(1, 5000), 0);
            } else if (wordIs("repeat")) {
                first = readNumber(0, step - 1);
                programs.addStepToLast(REPEAT, first, readNumber(1, 50));
            } else {
                fail(ERROR_PLACE, wordStart);
            }
        }

        /** Reads a word, from wordStart to place. */
        private void readWord() {
            skipSpaces();
            wordStart = place;
            if (!isLetter(next())) {
                fail(ERROR_PLACE, place);
                return;
            }
            while (place < length && isLetter(next())) {
                place++;
            }
        }

        private boolean wordIs(String word) {
            if (place - wordStart != word.length()) {
                return false;
            }
            for (int k = 0; k < word.length(); k++) {
                if (at(text, wordStart + k) != word.charAt(k)) {
                    return false;
                }
            }
            return true;
        }

        private int readNumber(int low, int high) {
            skipSpaces();
            int start = place;
            if (error != 0 || !isDigit(next())) {
                fail(ERROR_PLACE, place);
                return low;
            }
            int number = 0;
            while (place < length && isDigit(next())) {
                // More than any range has is as good as any more.
                number = Math.min(number * 10 + next() - '0', 100000000);
                place++;
            }
            if (number < low || number > high) {
                fail(ERROR_RANGE, start);
                return low;
            }
            return number;
        }

        private void skipSpaces() {
            while (place < length && next() == ' ') {
                place++;
            }
        }

        /** The byte at the place; 0, which no text has, at its end. */
        private int next() {
            return place < length && place >= 0 && place < text.length ? text[place] : 0;
        }

        private void fail(int number, int where) {
            if (error == 0) {
                error = number;
                errorPlace = where;
            }
        }

        private static boolean isLetter(int one) {
            return one >= 'a' && one <= 'z';
        }

        private static boolean isDigit(int one) {
            return one >= '0' && one <= '9';
        }
    }
}
