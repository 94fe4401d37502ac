/**
 * A roundness instrument with 24 angular positions: it records readings in steps, separates part and
 * spindle, and analyses the present profile. Profiles are longs in micro units, readings are ints.
 * The long arrays that calls work in are made once, with the instrument, and used again by every call.
 */
public final class RoundnessInstrument {
    public static final int BAD_VALUE = -1000001;
    public static final int NOT_NOW = -1000002;
    public static final int FULL = -1000004;
    public static final int NONE = -1000003;
    public static final long NO_VALUE = Long.MIN_VALUE;

    private static final int POSITIONS = 24;
    private static final long MICRO = 1000000L;
    private static final int MOST_LOBES = 12;
    private static final int MOST_STEPS = 12;
    private static final int MOST_READING = 10000;
    private static final int MOST_TRUE = 5000;
    private static final int MOST_AMPLITUDE = 1000;
    private static final int MOST_LIMIT = 20000;
    private static final int MOST_ANGLE = 5;
    private static final int MOST_HEIGHT = 100;
    private static final long MOST_PROFILE = 40000000000L;
    private static final int OK = 0;

    private static final int LEAST_SQUARES = 0;
    private static final int MINIMUM_ZONE = 1;
    private static final int CIRCUMSCRIBED = 2;
    private static final int METHODS = 4;

    private static final int FROM_READINGS = 0;
    private static final int FROM_PART = 1;
    private static final int FROM_SPINDLE = 2;
    private static final int FROM_TRUE_PART = 3;
    private static final int FROM_TRUE_SPINDLE = 4;

    private static final int[] COSINES = {
        1000000, 965926, 866025, 707107, 500000, 258819, 0,
        -258819, -500000, -707107, -866025, -965926,
        -1000000, -965926, -866025, -707107, -500000, -258819, 0,
        258819, 500000, 707107, 866025, 965926
    };

    // s(i) = c(i - 6), written out because a static table may not be computed.
    private static final int[] SINES = {
        0, 258819, 500000, 707107, 866025, 965926, 1000000,
        965926, 866025, 707107, 500000, 258819, 0,
        -258819, -500000, -707107, -866025, -965926,
        -1000000, -965926, -866025, -707107, -500000, -258819
    };

    private final Measurement measurement = new Measurement();
    private final Simulation simulation = new Simulation();
    private final History history = new History();
    private final Circle[] circles = new Circle[METHODS];
    private final Traces traces = new Traces();
    private final Rules rules = new Rules();
    private final Script script = new Script();
    private final long[] next = new long[POSITIONS];

    public RoundnessInstrument() {
        for (int method = 0; method < METHODS; method++) {
            circles[method] = new Circle();
        }
    }

    // ---- measurement

    public int setSteps(int steps) {
        if (!isStepCount(steps)) {
            return BAD_VALUE;
        }
        int before = measurement.count;
        measurement.begin(steps);
        return before;
    }

    public int read(int value) {
        if (isOutside(value, -MOST_READING, MOST_READING)) {
            return BAD_VALUE;
        }
        if (measurement.isComplete()) {
            return NOT_NOW;
        }
        measurement.append(value);
        return measurement.count;
    }

    public int simulateStep() {
        if (measurement.isComplete() || measurement.nextPosition() != 0) {
            return NOT_NOW;
        }
        int turn = measurement.turnOf(measurement.finishedSteps());
        for (int k = 0; k < POSITIONS; k++) {
            measurement.append(simulation.readingAt(k, turn));
        }
        return measurement.count;
    }

    public int removeReadings(int n) {
        if (isOutside(n, 0, measurement.count)) {
            return BAD_VALUE;
        }
        measurement.count -= n;
        return measurement.count;
    }

    public int progress(int what) {
        switch (what) {
            case 0:
                return measurement.steps;
            case 1:
                return measurement.count;
            case 2:
                return measurement.finishedSteps();
            case 3:
                return measurement.isComplete() ? NONE : measurement.nextPosition();
            default:
                return BAD_VALUE;
        }
    }

    public int reading(int step, int position) {
        if (isOutside(step, 0, measurement.steps - 1) || isNoPosition(position)) {
            return BAD_VALUE;
        }
        if (step * POSITIONS + position >= measurement.count) {
            return NONE;
        }
        return measurement.at(step, position);
    }

    public int despike(int step, int limit) {
        if (isOutside(step, 0, measurement.finishedSteps() - 1) || isOutside(limit, 0, MOST_LIMIT)) {
            return BAD_VALUE;
        }
        return measurement.replaceSpikes(step, limit);
    }

    // ---- separation

    public long part(int position) {
        if (isNoPosition(position) || !measurement.isComplete()) {
            return NO_VALUE;
        }
        return measurement.partAt(position);
    }

    public long spindle(int position) {
        if (isNoPosition(position) || !measurement.isComplete()) {
            return NO_VALUE;
        }
        return measurement.spindleAt(position);
    }

    public int isBlind(int lobes) {
        if (isOutside(lobes, 1, MOST_LOBES)) {
            return BAD_VALUE;
        }
        int steps = measurement.steps;
        return steps != 0 && lobes % steps == 0 ? 1 : 0;
    }

    public long residual() {
        return measurement.isComplete() ? measurement.greatestResidual() : NO_VALUE;
    }

    // ---- the present profile

    public int load(int source, int step) {
        int error = sourceError(source, step);
        if (error != OK) {
            return error;
        }
        fillNext(source, step);
        makeNextPresent();
        return 1;
    }

    public long profile(int position) {
        return isNoPosition(position) ? NO_VALUE : history.present()[position];
    }

    public int rotate(int by) {
        if (isOutside(by, 1 - POSITIONS, POSITIONS - 1)) {
            return BAD_VALUE;
        }
        long[] z = history.present();
        for (int k = 0; k < POSITIONS; k++) {
            next[k] = z[place(k - by)];
        }
        return makeNextPresent();
    }

    public int removeEccentricity() {
        long[] z = history.present();
        long mean = coefficient(z, 0, false);
        long x = coefficient(z, 1, false);
        long y = coefficient(z, 1, true);
        for (int k = 0; k < POSITIONS; k++) {
            next[k] = z[k] - mean - wave(x, y, k);
        }
        return makeNextPresent();
    }

    public int keepLobes(int first, int last) {
        if (isNoRange(first, last)) {
            return BAD_VALUE;
        }
        copyLobes(history.present(), first, last, next);
        return makeNextPresent();
    }

    public int subtract(int source, int step) {
        int error = sourceError(source, step);
        if (error != OK) {
            return error;
        }
        fillNext(source, step);
        long[] z = history.present();
        for (int k = 0; k < POSITIONS; k++) {
            next[k] = z[k] - next[k];
        }
        return isNextTooGreat() ? BAD_VALUE : makeNextPresent();
    }

    public int vBlock(int angle) {
        if (isOutside(angle, 1, MOST_ANGLE)) {
            return BAD_VALUE;
        }
        long[] z = history.present();
        for (int k = 0; k < POSITIONS; k++) {
            long flanks = z[place(k + 12 - angle)] + z[place(k + 12 + angle)];
            next[k] = z[k] + divide(flanks * 500000, cosine(angle));
        }
        return isNextTooGreat() ? BAD_VALUE : makeNextPresent();
    }

    public int isBlindInVBlock(int angle, int lobes) {
        if (isOutside(angle, 1, MOST_ANGLE) || isOutside(lobes, 1, MOST_LOBES)) {
            return BAD_VALUE;
        }
        int other = cosine(lobes * angle);
        if (lobes % 2 == 0) {
            return cosine(angle) + other == 0 ? 1 : 0;
        }
        return cosine(angle) - other == 0 ? 1 : 0;
    }

    public int undo() {
        return history.stepBack() ? history.undoable : NONE;
    }

    public int redo() {
        return history.stepForward() ? history.redoable : NONE;
    }

    // ---- harmonics

    public long harmonic(int h, boolean sine) {
        return isOutside(h, 0, MOST_LOBES) ? NO_VALUE : coefficient(history.present(), h, sine);
    }

    public long strength(int h) {
        return isOutside(h, 0, MOST_LOBES) ? NO_VALUE : strengthOf(history.present(), h);
    }

    public int dominant(int first) {
        if (isOutside(first, 0, MOST_LOBES)) {
            return BAD_VALUE;
        }
        long[] z = history.present();
        int best = first;
        long greatest = strengthOf(z, first);
        for (int h = first + 1; h <= MOST_LOBES; h++) {
            long here = strengthOf(z, h);
            if (here > greatest) {
                greatest = here;
                best = h;
            }
        }
        return best;
    }

    // ---- roundness

    public long centre(int method, boolean vertical) {
        if (isNoMethod(method)) {
            return NO_VALUE;
        }
        Circle circle = circleBy(method);
        return vertical ? circle.y : circle.x;
    }

    public long deviation(int method, int position) {
        if (isNoMethod(method) || isNoPosition(position)) {
            return NO_VALUE;
        }
        return circleBy(method).deviations[position];
    }

    public double roundness(int method) {
        if (isNoMethod(method)) {
            return -1.0;
        }
        return (double) circleBy(method).width() / 1000000;
    }

    public int extreme(int method, boolean greatest) {
        if (isNoMethod(method)) {
            return BAD_VALUE;
        }
        Circle circle = circleBy(method);
        return circle.firstWith(greatest ? circle.greatest : circle.least);
    }

    public float meanSquare() {
        long[] deviations = circleBy(LEAST_SQUARES).deviations;
        double sum = 0.0;
        for (int k = 0; k < POSITIONS; k++) {
            double here = (double) deviations[k] / 1000000;
            sum += here * here;
        }
        return (float) (sum / 24);
    }

    public int materialAt(int method, long depth) {
        if (isNoMethod(method) || depth < 0) {
            return BAD_VALUE;
        }
        return circleBy(method).countDownTo(depth);
    }

    public long depthFor(int method, int count) {
        if (isNoMethod(method) || isOutside(count, 1, POSITIONS)) {
            return NO_VALUE;
        }
        return circleBy(method).leastDepth(count);
    }

    // ---- traces

    public int storeTrace(int height) {
        if (isOutside(height, 0, MOST_HEIGHT) || traces.hasHeight(height)) {
            return BAD_VALUE;
        }
        if (traces.count == Traces.MOST) {
            return FULL;
        }
        traces.append(history.present(), height);
        return traces.count - 1;
    }

    public int removeTraces(int n) {
        if (isOutside(n, 0, traces.count)) {
            return BAD_VALUE;
        }
        traces.count -= n;
        return traces.count;
    }

    public int recall(int trace) {
        if (traces.lacks(trace)) {
            return BAD_VALUE;
        }
        System.arraycopy(traces.profiles[trace], 0, next, 0, POSITIONS);
        return makeNextPresent();
    }

    public long traceValue(int trace, int what) {
        if (traces.lacks(trace)) {
            return NO_VALUE;
        }
        switch (what) {
            case 0:
                return traces.heights[trace];
            case 1:
                return traces.xs[trace];
            case 2:
                return traces.ys[trace];
            case 3:
                return traces.means[trace];
            default:
                return NO_VALUE;
        }
    }

    public long axis(int height, boolean vertical) {
        if (isOutside(height, 0, MOST_HEIGHT) || traces.count < 2) {
            return NO_VALUE;
        }
        return traces.axisAt(height, vertical);
    }

    public double cylindricity() {
        if (traces.count < 2) {
            return -1.0;
        }
        return (double) traces.cylinderWidth() / 1000000;
    }

    public int farthestTrace() {
        return traces.count < 2 ? NOT_NOW : traces.farthest();
    }

    public long taper() {
        return traces.count < 1 ? NO_VALUE : traces.spreadOfMeans();
    }

    public long difference(int first, int second, int by) {
        if (traces.lacks(first) || traces.lacks(second) || isNoPosition(by)) {
            return NO_VALUE;
        }
        return traces.mismatch(first, second, by);
    }

    public int bestRotation(int first, int second) {
        if (traces.lacks(first) || traces.lacks(second)) {
            return BAD_VALUE;
        }
        return traces.bestMatch(first, second);
    }

    // ---- rules

    public int addRule(int first, int last, int method, int limit) {
        if (isNoRange(first, last) || isNoMethod(method) || isOutside(limit, 0, MOST_LIMIT)) {
            return BAD_VALUE;
        }
        if (rules.count == Rules.MOST) {
            return FULL;
        }
        rules.append(first, last, method, limit);
        return rules.count - 1;
    }

    public int clearRules() {
        int before = rules.count;
        rules.count = 0;
        return before;
    }

    public long ruleValue(int rule) {
        return isOutside(rule, 0, rules.count - 1) ? NO_VALUE : valueOfRule(rule);
    }

    public int violated() {
        int set = 0;
        for (int rule = 0; rule < rules.count; rule++) {
            if (valueOfRule(rule) > rules.limits[rule] * MICRO) {
                set |= 1 << rule;
            }
        }
        return set;
    }

    // ---- texts

    public int type(char character) {
        if (script.length == Script.MOST) {
            return FULL;
        }
        script.append(character);
        return script.length;
    }

    public int clearText() {
        int before = script.length;
        script.length = 0;
        return before;
    }

    public int readText() {
        if (!script.parse()) {
            return -100 - script.fault;
        }
        simulation.reset();
        for (int i = 0; i < script.items; i++) {
            obey(i);
        }
        return script.items;
    }

    // ---- simulation

    public int setTrue(boolean spindle, int position, int value) {
        if (isNoPosition(position) || isOutside(value, -MOST_TRUE, MOST_TRUE)) {
            return BAD_VALUE;
        }
        int[] profile = simulation.profileOf(spindle);
        int before = profile[position];
        profile[position] = value;
        return before;
    }

    public int addLobes(boolean spindle, int lobes, int amplitude, int phase) {
        if (isOutside(lobes, 0, MOST_LOBES) || isOutside(amplitude, -MOST_AMPLITUDE, MOST_AMPLITUDE)
                || isNoPosition(phase)) {
            return BAD_VALUE;
        }
        return simulation.superpose(spindle, lobes, amplitude, phase) ? 1 : 0;
    }

    public int setEccentricity(int x, int y) {
        if (isOutside(x, -MOST_TRUE, MOST_TRUE) || isOutside(y, -MOST_TRUE, MOST_TRUE)) {
            return BAD_VALUE;
        }
        return simulation.shiftTo(x, y) ? 1 : 0;
    }

    // ---- what the calls share

    private int sourceError(int source, int step) {
        if (isOutside(source, FROM_READINGS, FROM_TRUE_SPINDLE)) {
            return BAD_VALUE;
        }
        if (source == FROM_READINGS) {
            if (isOutside(step, 0, measurement.steps - 1)) {
                return BAD_VALUE;
            }
            return step < measurement.finishedSteps() ? OK : NOT_NOW;
        }
        if (source == FROM_PART || source == FROM_SPINDLE) {
            return measurement.isComplete() ? OK : NOT_NOW;
        }
        return OK;
    }

    private void fillNext(int source, int step) {
        for (int k = 0; k < POSITIONS; k++) {
            next[k] = sourceAt(source, step, k);
        }
    }

    private long sourceAt(int source, int step, int position) {
        switch (source) {
            case FROM_READINGS:
                return measurement.at(step, position) * MICRO;
            case FROM_PART:
                return measurement.partAt(position);
            case FROM_SPINDLE:
                return measurement.spindleAt(position);
            case FROM_TRUE_PART:
                return simulation.profileOf(false)[position] * MICRO;
            default:
                return simulation.profileOf(true)[position] * MICRO;
        }
    }

    private boolean isNextTooGreat() {
        for (int k = 0; k < POSITIONS; k++) {
            if (Math.abs(next[k]) > MOST_PROFILE) {
                return true;
            }
        }
        return false;
    }

    private int makeNextPresent() {
        return history.append(next) ? 1 : 0;
    }

    private Circle circleBy(int method) {
        Circle circle = circles[method];
        circle.fit(history.present(), method);
        return circle;
    }

    private long valueOfRule(int rule) {
        copyLobes(history.present(), rules.firsts[rule], rules.lasts[rule], next);
        Circle circle = rules.circles[rule];
        circle.fit(next, rules.methods[rule]);
        return circle.width();
    }

    private void obey(int item) {
        int first = script.firsts[item];
        int second = script.seconds[item];
        switch (script.kinds[item]) {
            case 'n':
                measurement.begin(first);
                break;
            case 'e':
                simulation.shiftTo(first, second);
                break;
            default:
                simulation.superpose(script.kinds[item] == 's', first, second, script.thirds[item]);
                break;
        }
    }

    // ---- numbers

    private static boolean isOutside(int value, int least, int greatest) {
        return value < least || value > greatest;
    }

    private static boolean isNoPosition(int position) {
        return isOutside(position, 0, POSITIONS - 1);
    }

    private static boolean isNoMethod(int method) {
        return isOutside(method, 0, METHODS - 1);
    }

    private static boolean isNoRange(int first, int last) {
        return first < 0 || first > last || last > MOST_LOBES;
    }

    private static boolean isStepCount(int steps) {
        return steps == 2 || steps == 3 || steps == 4 || steps == 6 || steps == 8 || steps == 12;
    }

    private static int place(int position) {
        return Math.floorMod(position, POSITIONS);
    }

    private static int cosine(int i) {
        return COSINES[place(i)];
    }

    // No caller divides by 0; the test stands here so that the machine can't throw whatever they do.
    private static long divide(long value, long divisor) {
        return divisor == 0 ? 0 : Math.floorDiv(value, divisor);
    }

    private static int clamp(long value, int most) {
        if (value > most) {
            return most;
        }
        return value < -most ? -most : (int) value;
    }

    private static long wave(long a, long b, int i) {
        int at = Math.floorMod(i, POSITIONS);
        return Math.floorDiv(a * COSINES[at] + b * SINES[at], MICRO);
    }

    private static long coefficient(long[] z, int h, boolean ofSine) {
        int[] table = ofSine ? SINES : COSINES;
        long sum = 0;
        for (int k = 0; k < POSITIONS; k++) {
            sum += z[k] * table[place(h * k)];
        }
        return Math.floorDiv(sum, h == 0 || h == MOST_LOBES ? 24 * MICRO : 12 * MICRO);
    }

    private static boolean isSame(long[] one, long[] other) {
        for (int k = 0; k < POSITIONS; k++) {
            if (one[k] != other[k]) {
                return false;
            }
        }
        return true;
    }

    private static long strengthOf(long[] z, int h) {
        return Math.abs(coefficient(z, h, false)) + Math.abs(coefficient(z, h, true));
    }

    private static void copyLobes(long[] z, int first, int last, long[] kept) {
        for (int k = 0; k < POSITIONS; k++) {
            kept[k] = 0;
        }
        for (int h = first; h <= last; h++) {
            long a = coefficient(z, h, false);
            long b = coefficient(z, h, true);
            for (int k = 0; k < POSITIONS; k++) {
                kept[k] += wave(a, b, h * k);
            }
        }
    }

    /** The readings of all steps, one behind the other, and what the multi-step method makes of them. */
    private static final class Measurement {
        private final int[] readings = new int[MOST_STEPS * POSITIONS];
        private final int[] old = new int[POSITIONS];
        private final long[] parts = new long[POSITIONS];
        private int steps = 4;
        private int count = 0;

        private void begin(int newSteps) {
            steps = newSteps;
            count = 0;
        }

        private boolean isComplete() {
            return count >= steps * POSITIONS;
        }

        private int finishedSteps() {
            return count / POSITIONS;
        }

        private int nextPosition() {
            return count % POSITIONS;
        }

        private int turnOf(int step) {
            return steps == 0 ? 0 : step * (POSITIONS / steps);
        }

        private void append(int value) {
            if (count < readings.length) {
                readings[count] = value;
                count++;
            }
        }

        private int at(int step, int position) {
            return readings[step * POSITIONS + Math.floorMod(position, POSITIONS)];
        }

        private int replaceSpikes(int step, int limit) {
            int start = step * POSITIONS;
            System.arraycopy(readings, start, old, 0, POSITIONS);
            int replaced = 0;
            for (int k = 0; k < POSITIONS; k++) {
                int sides = old[place(k - 1)] + old[place(k + 1)];
                if (Math.abs(2 * old[k] - sides) > 2 * limit) {
                    readings[start + k] = Math.floorDiv(sides, 2);
                    replaced++;
                }
            }
            return replaced;
        }

        private long sumAt(int position) {
            long sum = 0;
            for (int j = 0; j < steps; j++) {
                sum += at(j, position);
            }
            return sum;
        }

        private long spindleAt(int position) {
            return divide(MICRO * sumAt(position), steps);
        }

        private long partAt(int position) {
            long sum = 0;
            for (int j = 0; j < steps; j++) {
                int turned = position + turnOf(j);
                sum += (long) steps * at(j, turned) - sumAt(turned);
            }
            return divide(MICRO * sum, (long) steps * steps);
        }

        private long greatestResidual() {
            for (int k = 0; k < POSITIONS; k++) {
                parts[k] = partAt(k);
            }
            long greatest = 0;
            for (int k = 0; k < POSITIONS; k++) {
                long spindleHere = spindleAt(k);
                for (int j = 0; j < steps; j++) {
                    long rest = MICRO * at(j, k) - parts[place(k - turnOf(j))] - spindleHere;
                    greatest = Math.max(greatest, Math.abs(rest));
                }
            }
            return greatest;
        }
    }

    /** What the simulated part and spindle are truly like. */
    private static final class Simulation {
        private final int[] truePart = new int[POSITIONS];
        private final int[] trueSpindle = new int[POSITIONS];
        private int eccentricX = 0;
        private int eccentricY = 0;

        private int[] profileOf(boolean ofSpindle) {
            return ofSpindle ? trueSpindle : truePart;
        }

        private void reset() {
            for (int k = 0; k < POSITIONS; k++) {
                truePart[k] = 0;
                trueSpindle[k] = 0;
            }
            shiftTo(0, 0);
        }

        private boolean shiftTo(int x, int y) {
            boolean changed = x != eccentricX || y != eccentricY;
            eccentricX = x;
            eccentricY = y;
            return changed;
        }

        private boolean superpose(boolean ofSpindle, int lobes, int amplitude, int phase) {
            int[] profile = profileOf(ofSpindle);
            boolean changed = false;
            for (int k = 0; k < POSITIONS; k++) {
                long added = Math.floorDiv((long) amplitude * cosine(lobes * k + phase), MICRO);
                int sum = clamp(profile[k] + added, MOST_TRUE);
                changed = changed || sum != profile[k];
                profile[k] = sum;
            }
            return changed;
        }

        private int readingAt(int position, int turn) {
            int onPart = place(position - turn);
            long sum = truePart[onPart] + trueSpindle[position] + wave(eccentricX, eccentricY, onPart);
            return clamp(sum, MOST_READING);
        }
    }

    /**
     * The present profile with those before it and those undone, in a ring. A new profile forgets the undone
     * ones, so that there are never more than 20 of both kinds together.
     */
    private static final class History {
        private static final int MOST_UNDOABLE = 20;
        private static final int PLACES = MOST_UNDOABLE + 1;

        private final long[][] ring = new long[PLACES][POSITIONS];
        private int oldest = 0;
        private int undoable = 0;
        private int redoable = 0;

        private long[] present() {
            return ring[(oldest + undoable) % PLACES];
        }

        private boolean append(long[] newer) {
            boolean changed = !isSame(present(), newer);
            if (undoable < MOST_UNDOABLE) {
                undoable++;
            } else {
                oldest = (oldest + 1) % PLACES;
            }
            redoable = 0;
            System.arraycopy(newer, 0, present(), 0, POSITIONS);
            return changed;
        }

        private boolean stepBack() {
            if (undoable == 0) {
                return false;
            }
            undoable--;
            redoable++;
            return true;
        }

        private boolean stepForward() {
            if (redoable == 0) {
                return false;
            }
            redoable--;
            undoable++;
            return true;
        }
    }

    /**
     * A reference circle: the centre that a method finds for a profile, and the deviations about it. It is kept
     * until another one is asked for, because a search can be long.
     */
    private static final class Circle {
        private static final long FIRST_STRIDE = 1L << 30;
        // Each move lowers the value by 1 at least and no value falls by as much as this, so that the bound is
        // never reached. A small one would cut searches short: between two nearly flat slopes some zigzag for
        // many millions of rounds.
        private static final long MOST_ROUNDS = 1L << 40;
        private static final int MOVES_PER_PICK = 16;
        private static final int[] TO_X = {1, 1, 0, -1, -1, -1, 0, 1};
        private static final int[] TO_Y = {0, 1, 1, 1, 0, -1, -1, -1};
        private static final int NOWHERE = -1;
        private static final int UNFITTED = -1;

        private final long[] profile = new long[POSITIONS];
        private final long[] deviations = new long[POSITIONS];
        private final int[] near = new int[POSITIONS];
        private int nearCount = 0;
        private int method = UNFITTED;
        private long x = 0;
        private long y = 0;
        private long greatest = 0;
        private long least = 0;

        private void fit(long[] z, int newMethod) {
            if (method == newMethod && isSame(profile, z)) {
                return;
            }
            System.arraycopy(z, 0, profile, 0, POSITIONS);
            method = newMethod;
            if (method == LEAST_SQUARES) {
                x = coefficient(z, 1, false);
                y = coefficient(z, 1, true);
            } else {
                search();
            }
            measure();
        }

        private void search() {
            x = 0;
            y = 0;
            measure();
            long value = valueOf(greatest, least);
            long stride = FIRST_STRIDE;
            int movesLeft = 0;
            for (long round = 0; round < MOST_ROUNDS && stride >= 1; round++) {
                if (movesLeft == 0) {
                    movesLeft = MOVES_PER_PICK;
                    measure();
                    pickNear(stride * MOVES_PER_PICK);
                }
                int best = NOWHERE;
                for (int i = 0; i < TO_X.length; i++) {
                    long candidate = valueAt(x + stride * TO_X[i], y + stride * TO_Y[i]);
                    if (candidate < value) {
                        value = candidate;
                        best = i;
                    }
                }
                if (best == NOWHERE) {
                    stride /= 2;
                    movesLeft = 0;
                } else {
                    x += stride * TO_X[best];
                    y += stride * TO_Y[best];
                    movesLeft--;
                }
            }
        }

        // Where neither coordinate has moved by more than the reach, no deviation has changed by more than
        // 2 * reach + 1, so only the positions picked here can have the greatest or the least one.
        private void pickNear(long reach) {
            long slack = 2 * (2 * reach + 1);
            nearCount = 0;
            for (int k = 0; k < POSITIONS; k++) {
                if (deviations[k] >= greatest - slack || deviations[k] <= least + slack) {
                    near[nearCount] = k;
                    nearCount++;
                }
            }
        }

        private long valueAt(long atX, long atY) {
            long most = Long.MIN_VALUE;
            long fewest = Long.MAX_VALUE;
            for (int i = 0; i < nearCount; i++) {
                int k = near[i];
                long here = profile[k] - Math.floorDiv(atX * COSINES[k] + atY * SINES[k], MICRO);
                most = Math.max(most, here);
                fewest = Math.min(fewest, here);
            }
            return valueOf(most, fewest);
        }

        private long valueOf(long most, long fewest) {
            if (method == MINIMUM_ZONE) {
                return most - fewest;
            }
            return method == CIRCUMSCRIBED ? most : -fewest;
        }

        private void measure() {
            greatest = Long.MIN_VALUE;
            least = Long.MAX_VALUE;
            for (int k = 0; k < POSITIONS; k++) {
                long here = profile[k] - wave(x, y, k);
                deviations[k] = here;
                greatest = Math.max(greatest, here);
                least = Math.min(least, here);
            }
        }

        private long width() {
            return greatest - least;
        }

        private int firstWith(long value) {
            for (int k = 0; k < POSITIONS; k++) {
                if (deviations[k] == value) {
                    return k;
                }
            }
            return 0;
        }

        // The differences stay small, while greatest - depth could leave the range of a long.
        private int countDownTo(long depth) {
            int counted = 0;
            for (int k = 0; k < POSITIONS; k++) {
                if (greatest - deviations[k] <= depth) {
                    counted++;
                }
            }
            return counted;
        }

        // The count grows only at depths at which a deviation lies, so no other depth need be tried.
        private long leastDepth(int count) {
            long best = width();
            for (int k = 0; k < POSITIONS; k++) {
                long depth = greatest - deviations[k];
                if (depth < best && countDownTo(depth) >= count) {
                    best = depth;
                }
            }
            return best;
        }
    }

    /** The profiles kept at several heights, with their centres and means, and the cylinder they form. */
    private static final class Traces {
        private static final int MOST = 6;

        private final long[][] profiles = new long[MOST][POSITIONS];
        private final int[] heights = new int[MOST];
        private final long[] xs = new long[MOST];
        private final long[] ys = new long[MOST];
        private final long[] means = new long[MOST];
        private int count = 0;

        private boolean lacks(int trace) {
            return isOutside(trace, 0, count - 1);
        }

        private boolean hasHeight(int height) {
            for (int i = 0; i < count; i++) {
                if (heights[i] == height) {
                    return true;
                }
            }
            return false;
        }

        private void append(long[] z, int height) {
            if (count < MOST) {
                System.arraycopy(z, 0, profiles[count], 0, POSITIONS);
                heights[count] = height;
                xs[count] = coefficient(z, 1, false);
                ys[count] = coefficient(z, 1, true);
                means[count] = coefficient(z, 0, false);
                count++;
            }
        }

        private long axisAt(int height, boolean vertical) {
            long[] centres = vertical ? ys : xs;
            long sumH = 0;
            long sumH2 = 0;
            long sumX = 0;
            long sumHX = 0;
            for (int i = 0; i < count; i++) {
                long h = heights[i];
                sumH += h;
                sumH2 += h * h;
                sumX += centres[i];
                sumHX += h * centres[i];
            }
            long slope = count * sumHX - sumH * sumX;
            return divide(sumH2 * sumX - sumH * sumHX + height * slope, count * sumH2 - sumH * sumH);
        }

        private long cylinderWidth() {
            long greatest = Long.MIN_VALUE;
            long least = Long.MAX_VALUE;
            for (int i = 0; i < count; i++) {
                long x = axisAt(heights[i], false);
                long y = axisAt(heights[i], true);
                for (int k = 0; k < POSITIONS; k++) {
                    long here = profiles[i][k] - wave(x, y, k);
                    greatest = Math.max(greatest, here);
                    least = Math.min(least, here);
                }
            }
            return greatest - least;
        }

        private long distanceFromAxis(int trace) {
            int height = heights[trace];
            return Math.abs(xs[trace] - axisAt(height, false)) + Math.abs(ys[trace] - axisAt(height, true));
        }

        private int farthest() {
            int best = 0;
            long greatest = distanceFromAxis(0);
            for (int i = 1; i < count; i++) {
                long distance = distanceFromAxis(i);
                if (distance > greatest) {
                    greatest = distance;
                    best = i;
                }
            }
            return best;
        }

        private long spreadOfMeans() {
            long greatest = means[0];
            long least = means[0];
            for (int i = 1; i < count; i++) {
                greatest = Math.max(greatest, means[i]);
                least = Math.min(least, means[i]);
            }
            return greatest - least;
        }

        private long mismatch(int first, int second, int by) {
            long sum = 0;
            for (int k = 0; k < POSITIONS; k++) {
                sum += Math.abs(profiles[first][place(k - by)] - profiles[second][k]);
            }
            return sum;
        }

        private int bestMatch(int first, int second) {
            int best = 0;
            long least = mismatch(first, second, 0);
            for (int by = 1; by < POSITIONS; by++) {
                long sum = mismatch(first, second, by);
                if (sum < least) {
                    least = sum;
                    best = by;
                }
            }
            return best;
        }
    }

    /** The rules, in order of addition. */
    private static final class Rules {
        private static final int MOST = 8;

        private final int[] firsts = new int[MOST];
        private final int[] lasts = new int[MOST];
        private final int[] methods = new int[MOST];
        private final int[] limits = new int[MOST];
        private final Circle[] circles = new Circle[MOST];
        private int count = 0;

        private Rules() {
            for (int rule = 0; rule < MOST; rule++) {
                circles[rule] = new Circle();
            }
        }

        private void append(int first, int last, int method, int limit) {
            if (count < MOST) {
                firsts[count] = first;
                lasts[count] = last;
                methods[count] = method;
                limits[count] = limit;
                count++;
            }
        }
    }

    /**
     * The text that describes a simulation. Its items are noted while it is parsed and obeyed only afterwards,
     * because a text with a fault must change nothing.
     */
    private static final class Script {
        private static final int MOST = 200;
        // The shortest item and the semicolon behind it take three characters.
        private static final int MOST_ITEMS = 67;
        private static final int MOST_DIGITS = 5;
        private static final int AT_END = -1;

        private final char[] characters = new char[MOST];
        private final int[] kinds = new int[MOST_ITEMS];
        private final int[] firsts = new int[MOST_ITEMS];
        private final int[] seconds = new int[MOST_ITEMS];
        private final int[] thirds = new int[MOST_ITEMS];
        private int length = 0;
        private int cursor = 0;
        private int items = 0;
        private int number = 0;
        private int fault = 0;

        private void append(char character) {
            if (length < MOST) {
                characters[length] = character;
                length++;
            }
        }

        private boolean parse() {
            cursor = 0;
            items = 0;
            // Every item takes at least one character, so the rounds can't outrun the length.
            for (int round = 0; round <= length; round++) {
                if (!parseItem()) {
                    return false;
                }
                if (cursor == length) {
                    return true;
                }
                if (!take(';')) {
                    return false;
                }
            }
            return fail(length);
        }

        private boolean parseItem() {
            int kind = current();
            if (kind == 'p' || kind == 's') {
                return parseLobes(kind);
            }
            if (kind == 'e') {
                return parseEccentricity();
            }
            return kind == 'n' ? parseSteps() : fail(cursor);
        }

        private boolean parseLobes(int kind) {
            cursor++;
            if (!takeNumber(0, MOST_LOBES)) {
                return false;
            }
            int lobes = number;
            if (!take('a') || !takeNumber(-MOST_AMPLITUDE, MOST_AMPLITUDE)) {
                return false;
            }
            int amplitude = number;
            int phase = 0;
            if (current() == 'f') {
                cursor++;
                if (!takeNumber(0, POSITIONS - 1)) {
                    return false;
                }
                phase = number;
            }
            note(kind, lobes, amplitude, phase);
            return true;
        }

        private boolean parseEccentricity() {
            cursor++;
            if (!takeNumber(-MOST_TRUE, MOST_TRUE)) {
                return false;
            }
            int x = number;
            if (!take(',') || !takeNumber(-MOST_TRUE, MOST_TRUE)) {
                return false;
            }
            note('e', x, number, 0);
            return true;
        }

        private boolean parseSteps() {
            cursor++;
            int start = cursor;
            if (!takeNumber(0, MOST_STEPS)) {
                return false;
            }
            if (!isStepCount(number)) {
                return fail(start);
            }
            note('n', number, 0, 0);
            return true;
        }

        private void note(int kind, int first, int second, int third) {
            if (items < MOST_ITEMS) {
                kinds[items] = kind;
                firsts[items] = first;
                seconds[items] = second;
                thirds[items] = third;
                items++;
            }
        }

        private boolean takeNumber(int least, int greatest) {
            int start = cursor;
            boolean negative = current() == '-';
            if (negative) {
                cursor++;
            }
            if (!isAtDigit()) {
                return fail(cursor);
            }
            int value = 0;
            for (int digits = 0; digits < MOST_DIGITS && isAtDigit(); digits++) {
                value = value * 10 + (current() - '0');
                cursor++;
            }
            number = negative ? -value : value;
            return !isOutside(number, least, greatest) || fail(start);
        }

        private boolean isAtDigit() {
            return !isOutside(current(), '0', '9');
        }

        private boolean take(char wanted) {
            if (current() != wanted) {
                return fail(cursor);
            }
            cursor++;
            return true;
        }

        private int current() {
            return cursor < length ? characters[cursor] : AT_END;
        }

        private boolean fail(int index) {
            fault = index;
            return false;
        }
    }
}
