import java.math.BigInteger;
import java.util.ArrayDeque;
import java.util.ArrayList;
import java.util.Deque;
import java.util.List;

/**
 * The document once more, in the plainest words and without any thought of speed: numbers are BigIntegers, so that
 * a long that runs over in the program shows as a difference.
 */
public final class Model {
    private static final int BAD = -1000001;
    private static final int NOT_NOW = -1000002;
    private static final int NONE = -1000003;
    private static final int FULL = -1000004;
    private static final long NO_VALUE = Long.MIN_VALUE;
    private static final int[] QUARTER = {1000000, 965926, 866025, 707107, 500000, 258819, 0};
    private static final BigInteger MILLION = big(1000000);
    private static final BigInteger GREATEST = big(40000000000L);

    private record Trace(int height, BigInteger[] z) { }

    private record Rule(int first, int last, int method, int limit) { }

    private int p = 4;
    private final List<Integer> readings = new ArrayList<>();
    private int[] truePart = new int[24];
    private int[] trueSpindle = new int[24];
    private int ex = 0;
    private int ey = 0;
    private BigInteger[] z = zeros();
    private final Deque<BigInteger[]> before = new ArrayDeque<>();
    private final Deque<BigInteger[]> undone = new ArrayDeque<>();
    private final List<Trace> traces = new ArrayList<>();
    private final List<Rule> rules = new ArrayList<>();
    private final StringBuilder text = new StringBuilder();

    // ---- numbers

    private static BigInteger big(long value) {
        return BigInteger.valueOf(value);
    }

    private static BigInteger[] zeros() {
        BigInteger[] all = new BigInteger[24];
        java.util.Arrays.fill(all, BigInteger.ZERO);
        return all;
    }

    private static int c(int i) {
        int turned = ((i % 24) + 24) % 24;
        if (turned > 12) {
            turned = 24 - turned;
        }
        return turned <= 6 ? QUARTER[turned] : -QUARTER[12 - turned];
    }

    private static int s(int i) {
        return c(i - 6);
    }

    private static BigInteger down(BigInteger value, BigInteger divisor) {
        BigInteger[] both = value.divideAndRemainder(divisor);
        boolean exact = both[1].signum() == 0;
        return exact || value.signum() == divisor.signum() ? both[0] : both[0].subtract(BigInteger.ONE);
    }

    private static BigInteger combined(BigInteger a, BigInteger b, int i) {
        return down(a.multiply(big(c(i))).add(b.multiply(big(s(i)))), MILLION);
    }

    private static int at(int position) {
        return ((position % 24) + 24) % 24;
    }

    private static boolean within(long value, long least, long greatest) {
        return least <= value && value <= greatest;
    }

    // ---- measurement

    private boolean complete() {
        return readings.size() == 24 * p;
    }

    private int m(int step, int position) {
        return readings.get(24 * step + at(position));
    }

    public int setSteps(int steps) {
        if (!List.of(2, 3, 4, 6, 8, 12).contains(steps)) {
            return BAD;
        }
        int had = readings.size();
        readings.clear();
        p = steps;
        return had;
    }

    public int read(int value) {
        if (!within(value, -10000, 10000)) {
            return BAD;
        }
        if (complete()) {
            return NOT_NOW;
        }
        readings.add(value);
        return readings.size();
    }

    public int simulateStep() {
        if (complete() || readings.size() % 24 > 0) {
            return NOT_NOW;
        }
        int j = readings.size() / 24;
        for (int k = 0; k < 24; k++) {
            int onPart = k - j * 24 / p;
            long value = truePart[at(onPart)] + trueSpindle[k] + combined(big(ex), big(ey), onPart).longValueExact();
            readings.add((int) Math.max(-10000, Math.min(10000, value)));
        }
        return readings.size();
    }

    public int removeReadings(int n) {
        if (!within(n, 0, readings.size())) {
            return BAD;
        }
        readings.subList(readings.size() - n, readings.size()).clear();
        return readings.size();
    }

    public int progress(int what) {
        return switch (what) {
            case 0 -> p;
            case 1 -> readings.size();
            case 2 -> readings.size() / 24;
            case 3 -> complete() ? NONE : readings.size() % 24;
            default -> BAD;
        };
    }

    public int reading(int step, int position) {
        if (!within(step, 0, p - 1) || !within(position, 0, 23)) {
            return BAD;
        }
        return 24 * step + position < readings.size() ? m(step, position) : NONE;
    }

    public int despike(int step, int limit) {
        if (step < 0 || step >= readings.size() / 24 || !within(limit, 0, 20000)) {
            return BAD;
        }
        List<Integer> old = new ArrayList<>(readings.subList(24 * step, 24 * step + 24));
        int spikes = 0;
        for (int k = 0; k < 24; k++) {
            int sum = old.get(at(k - 1)) + old.get(at(k + 1));
            if (Math.abs(2 * old.get(k) - sum) > 2 * limit) {
                readings.set(24 * step + k, down(big(sum), big(2)).intValueExact());
                spikes++;
            }
        }
        return spikes;
    }

    // ---- separation

    private long sum(int k) {
        long total = 0;
        for (int j = 0; j < p; j++) {
            total += m(j, k);
        }
        return total;
    }

    private BigInteger partBig(int k) {
        long q = 0;
        for (int j = 0; j < p; j++) {
            q += p * m(j, k + j * 24 / p) - sum(k + j * 24 / p);
        }
        return down(big(q).multiply(MILLION), big(p * p));
    }

    private BigInteger spindleBig(int k) {
        return down(big(sum(k)).multiply(MILLION), big(p));
    }

    public long part(int position) {
        return within(position, 0, 23) && complete() ? partBig(position).longValueExact() : NO_VALUE;
    }

    public long spindle(int position) {
        return within(position, 0, 23) && complete() ? spindleBig(position).longValueExact() : NO_VALUE;
    }

    public int isBlind(int lobes) {
        return !within(lobes, 1, 12) ? BAD : lobes % p == 0 ? 1 : 0;
    }

    public long residual() {
        if (!complete()) {
            return NO_VALUE;
        }
        BigInteger greatest = BigInteger.ZERO;
        for (int j = 0; j < p; j++) {
            for (int k = 0; k < 24; k++) {
                BigInteger rest = big(m(j, k)).multiply(MILLION)
                        .subtract(partBig(k - j * 24 / p)).subtract(spindleBig(k));
                greatest = greatest.max(rest.abs());
            }
        }
        return greatest.longValueExact();
    }

    // ---- the present profile

    private int sourceError(int source, int step) {
        if (!within(source, 0, 4) || source == 0 && !within(step, 0, p - 1)) {
            return BAD;
        }
        if (source == 0 && step >= readings.size() / 24) {
            return NOT_NOW;
        }
        return (source == 1 || source == 2) && !complete() ? NOT_NOW : 0;
    }

    private BigInteger source(int source, int step, int k) {
        return switch (source) {
            case 0 -> big(m(step, k)).multiply(MILLION);
            case 1 -> partBig(k);
            case 2 -> spindleBig(k);
            case 3 -> big(truePart[k]).multiply(MILLION);
            default -> big(trueSpindle[k]).multiply(MILLION);
        };
    }

    private int become(BigInteger[] newer) {
        before.addLast(z);
        if (before.size() > 20) {
            before.removeFirst();
        }
        undone.clear();
        boolean same = java.util.Arrays.equals(z, newer);
        z = newer;
        return same ? 0 : 1;
    }

    private static boolean tooGreat(BigInteger[] newer) {
        for (BigInteger value : newer) {
            if (value.abs().compareTo(GREATEST) > 0) {
                return true;
            }
        }
        return false;
    }

    public int load(int source, int step) {
        int error = sourceError(source, step);
        if (error != 0) {
            return error;
        }
        BigInteger[] newer = zeros();
        for (int k = 0; k < 24; k++) {
            newer[k] = source(source, step, k);
        }
        become(newer);
        return 1;
    }

    public long profile(int position) {
        return within(position, 0, 23) ? z[position].longValueExact() : NO_VALUE;
    }

    public int rotate(int by) {
        if (!within(by, -23, 23)) {
            return BAD;
        }
        BigInteger[] newer = zeros();
        for (int k = 0; k < 24; k++) {
            newer[at(k + by)] = z[k];
        }
        return become(newer);
    }

    public int removeEccentricity() {
        BigInteger[] newer = zeros();
        for (int k = 0; k < 24; k++) {
            newer[k] = z[k].subtract(a(z, 0)).subtract(combined(a(z, 1), b(z, 1), k));
        }
        return become(newer);
    }

    private static BigInteger[] kept(BigInteger[] z, int first, int last) {
        BigInteger[] newer = zeros();
        for (int h = first; h <= last; h++) {
            BigInteger a = a(z, h);
            BigInteger b = b(z, h);
            for (int k = 0; k < 24; k++) {
                newer[k] = newer[k].add(combined(a, b, h * k));
            }
        }
        return newer;
    }

    public int keepLobes(int first, int last) {
        if (!within(first, 0, last) || !within(last, first, 12)) {
            return BAD;
        }
        return become(kept(z, first, last));
    }

    public int subtract(int source, int step) {
        int error = sourceError(source, step);
        if (error != 0) {
            return error;
        }
        BigInteger[] newer = zeros();
        for (int k = 0; k < 24; k++) {
            newer[k] = z[k].subtract(source(source, step, k));
        }
        return tooGreat(newer) ? BAD : become(newer);
    }

    public int vBlock(int angle) {
        if (!within(angle, 1, 5)) {
            return BAD;
        }
        BigInteger[] newer = zeros();
        for (int k = 0; k < 24; k++) {
            BigInteger sum = z[at(k + 12 - angle)].add(z[at(k + 12 + angle)]);
            newer[k] = z[k].add(down(sum.multiply(big(500000)), big(c(angle))));
        }
        return tooGreat(newer) ? BAD : become(newer);
    }

    public int isBlindInVBlock(int angle, int lobes) {
        if (!within(angle, 1, 5) || !within(lobes, 1, 12)) {
            return BAD;
        }
        boolean even = c(angle) + c(lobes * angle) == 0 && lobes % 2 == 0;
        boolean odd = c(angle) - c(lobes * angle) == 0 && lobes % 2 == 1;
        return even || odd ? 1 : 0;
    }

    public int undo() {
        if (before.isEmpty()) {
            return NONE;
        }
        undone.addLast(z);
        z = before.removeLast();
        return before.size();
    }

    public int redo() {
        if (undone.isEmpty()) {
            return NONE;
        }
        before.addLast(z);
        z = undone.removeLast();
        return undone.size();
    }

    // ---- harmonics

    private static BigInteger a(BigInteger[] z, int h) {
        BigInteger sum = BigInteger.ZERO;
        for (int k = 0; k < 24; k++) {
            sum = sum.add(z[k].multiply(big(c(h * k))));
        }
        return down(sum, big(h == 0 || h == 12 ? 24000000 : 12000000));
    }

    private static BigInteger b(BigInteger[] z, int h) {
        BigInteger sum = BigInteger.ZERO;
        for (int k = 0; k < 24; k++) {
            sum = sum.add(z[k].multiply(big(s(h * k))));
        }
        return down(sum, big(h == 0 || h == 12 ? 24000000 : 12000000));
    }

    public long harmonic(int h, boolean sine) {
        return !within(h, 0, 12) ? NO_VALUE : (sine ? b(z, h) : a(z, h)).longValueExact();
    }

    public long strength(int h) {
        return !within(h, 0, 12) ? NO_VALUE : a(z, h).abs().add(b(z, h).abs()).longValueExact();
    }

    public int dominant(int first) {
        if (!within(first, 0, 12)) {
            return BAD;
        }
        int best = 12;
        for (int h = 12; h >= first; h--) {
            best = strength(h) >= strength(best) ? h : best;
        }
        return best;
    }

    // ---- roundness

    private static long[] longs(BigInteger[] z) {
        long[] all = new long[24];
        for (int k = 0; k < 24; k++) {
            all[k] = z[k].longValueExact();
        }
        return all;
    }

    private static long[] deviations(long[] z, long x, long y) {
        long[] d = new long[24];
        for (int k = 0; k < 24; k++) {
            long sum = Math.addExact(Math.multiplyExact(x, (long) c(k)), Math.multiplyExact(y, (long) s(k)));
            d[k] = z[k] - Math.floorDiv(sum, 1000000L);
        }
        return d;
    }

    private static long greatest(long[] d) {
        return java.util.Arrays.stream(d).max().getAsLong();
    }

    private static long least(long[] d) {
        return java.util.Arrays.stream(d).min().getAsLong();
    }

    private static long value(long[] z, int method, long x, long y) {
        long most = Long.MIN_VALUE;
        long fewest = Long.MAX_VALUE;
        for (long d : deviations(z, x, y)) {
            most = Math.max(most, d);
            fewest = Math.min(fewest, d);
        }
        return method == 1 ? most - fewest : method == 2 ? most : -fewest;
    }

    /** x and y. */
    private static long[] centreOf(BigInteger[] profile, int method) {
        if (method == 0) {
            return new long[] {a(profile, 1).longValueExact(), b(profile, 1).longValueExact()};
        }
        long[] z = longs(profile);
        long[] present = {0, 0};
        long step = 1073741824;
        while (step >= 1) {
            long[][] eight = {{step, 0}, {step, step}, {0, step}, {-step, step}, {-step, 0}, {-step, -step},
                {0, -step}, {step, -step}};
            long[] chosen = null;
            for (long[] move : eight) {
                long[] next = {present[0] + move[0], present[1] + move[1]};
                if (chosen == null || value(z, method, next[0], next[1]) < value(z, method, chosen[0], chosen[1])) {
                    chosen = next;
                }
            }
            if (value(z, method, chosen[0], chosen[1]) < value(z, method, present[0], present[1])) {
                present = chosen;
            } else {
                step = step / 2;
            }
        }
        return present;
    }

    private long[] about(int method) {
        long[] centre = centreOf(z, method);
        return deviations(longs(z), centre[0], centre[1]);
    }

    public long centre(int method, boolean vertical) {
        return !within(method, 0, 3) ? NO_VALUE : centreOf(z, method)[vertical ? 1 : 0];
    }

    public long deviation(int method, int position) {
        return !within(method, 0, 3) || !within(position, 0, 23) ? NO_VALUE : about(method)[position];
    }

    public double roundness(int method) {
        if (!within(method, 0, 3)) {
            return -1.0;
        }
        long[] d = about(method);
        return (double) (greatest(d) - least(d)) / 1000000;
    }

    public int extreme(int method, boolean greatest) {
        if (!within(method, 0, 3)) {
            return BAD;
        }
        long[] d = about(method);
        long wanted = greatest ? greatest(d) : least(d);
        for (int k = 0; ; k++) {
            if (d[k] == wanted) {
                return k;
            }
        }
    }

    public float meanSquare() {
        double sum = 0.0;
        for (long d : about(0)) {
            sum += ((double) d / 1000000) * ((double) d / 1000000);
        }
        return (float) (sum / 24);
    }

    public int materialAt(int method, long depth) {
        if (!within(method, 0, 3) || depth < 0) {
            return BAD;
        }
        long[] d = about(method);
        BigInteger bound = big(greatest(d)).subtract(big(depth));
        return (int) java.util.Arrays.stream(d).filter(one -> big(one).compareTo(bound) >= 0).count();
    }

    public long depthFor(int method, int count) {
        if (!within(method, 0, 3) || !within(count, 1, 24)) {
            return NO_VALUE;
        }
        long[] d = about(method);
        java.util.Arrays.sort(d);
        return d[23] - d[24 - count];
    }

    // ---- traces

    public int storeTrace(int height) {
        if (!within(height, 0, 100) || traces.stream().anyMatch(t -> t.height() == height)) {
            return BAD;
        }
        if (traces.size() == 6) {
            return FULL;
        }
        traces.add(new Trace(height, z));
        return traces.size() - 1;
    }

    public int removeTraces(int n) {
        if (!within(n, 0, traces.size())) {
            return BAD;
        }
        traces.subList(traces.size() - n, traces.size()).clear();
        return traces.size();
    }

    private boolean noTrace(int trace) {
        return !within(trace, 0, traces.size() - 1);
    }

    public int recall(int trace) {
        return noTrace(trace) ? BAD : become(traces.get(trace).z());
    }

    public long traceValue(int trace, int what) {
        if (noTrace(trace) || !within(what, 0, 3)) {
            return NO_VALUE;
        }
        Trace t = traces.get(trace);
        BigInteger[] values = {big(t.height()), a(t.z(), 1), b(t.z(), 1), a(t.z(), 0)};
        return values[what].longValueExact();
    }

    private BigInteger axisBig(int height, boolean vertical) {
        BigInteger n = big(traces.size());
        BigInteger h = BigInteger.ZERO;
        BigInteger h2 = BigInteger.ZERO;
        BigInteger x = BigInteger.ZERO;
        BigInteger hx = BigInteger.ZERO;
        for (Trace t : traces) {
            BigInteger one = vertical ? b(t.z(), 1) : a(t.z(), 1);
            BigInteger high = big(t.height());
            h = h.add(high);
            h2 = h2.add(high.multiply(high));
            x = x.add(one);
            hx = hx.add(high.multiply(one));
        }
        BigInteger slope = n.multiply(hx).subtract(h.multiply(x));
        BigInteger above = h2.multiply(x).subtract(h.multiply(hx)).add(big(height).multiply(slope));
        return down(above, n.multiply(h2).subtract(h.multiply(h)));
    }

    public long axis(int height, boolean vertical) {
        boolean error = !within(height, 0, 100) || traces.size() < 2;
        return error ? NO_VALUE : axisBig(height, vertical).longValueExact();
    }

    public double cylindricity() {
        if (traces.size() < 2) {
            return -1.0;
        }
        BigInteger most = null;
        BigInteger fewest = null;
        for (Trace t : traces) {
            for (int k = 0; k < 24; k++) {
                BigInteger d = t.z()[k].subtract(combined(axisBig(t.height(), false), axisBig(t.height(), true), k));
                most = most == null ? d : most.max(d);
                fewest = fewest == null ? d : fewest.min(d);
            }
        }
        return (double) most.subtract(fewest).longValueExact() / 1000000;
    }

    public int farthestTrace() {
        if (traces.size() < 2) {
            return NOT_NOW;
        }
        int best = 0;
        BigInteger farthest = big(-1);
        for (int i = 0; i < traces.size(); i++) {
            Trace t = traces.get(i);
            BigInteger distance = a(t.z(), 1).subtract(axisBig(t.height(), false)).abs()
                    .add(b(t.z(), 1).subtract(axisBig(t.height(), true)).abs());
            if (distance.compareTo(farthest) > 0) {
                farthest = distance;
                best = i;
            }
        }
        return best;
    }

    public long taper() {
        if (traces.isEmpty()) {
            return NO_VALUE;
        }
        long[] means = traces.stream().mapToLong(t -> a(t.z(), 0).longValueExact()).toArray();
        return greatest(means) - least(means);
    }

    public long difference(int first, int second, int by) {
        if (noTrace(first) || noTrace(second) || !within(by, 0, 23)) {
            return NO_VALUE;
        }
        BigInteger sum = BigInteger.ZERO;
        for (int k = 0; k < 24; k++) {
            sum = sum.add(traces.get(first).z()[at(k - by)].subtract(traces.get(second).z()[k]).abs());
        }
        return sum.longValueExact();
    }

    public int bestRotation(int first, int second) {
        if (noTrace(first) || noTrace(second)) {
            return BAD;
        }
        int best = 23;
        for (int by = 23; by >= 0; by--) {
            best = difference(first, second, by) <= difference(first, second, best) ? by : best;
        }
        return best;
    }

    // ---- rules

    public int addRule(int first, int last, int method, int limit) {
        boolean range = 0 <= first && first <= last && last <= 12;
        if (!range || !within(method, 0, 3) || !within(limit, 0, 20000)) {
            return BAD;
        }
        if (rules.size() == 8) {
            return FULL;
        }
        rules.add(new Rule(first, last, method, limit));
        return rules.size() - 1;
    }

    public int clearRules() {
        int had = rules.size();
        rules.clear();
        return had;
    }

    public long ruleValue(int rule) {
        if (!within(rule, 0, rules.size() - 1)) {
            return NO_VALUE;
        }
        Rule r = rules.get(rule);
        BigInteger[] kept = kept(z, r.first(), r.last());
        long[] centre = centreOf(kept, r.method());
        long[] d = deviations(longs(kept), centre[0], centre[1]);
        return greatest(d) - least(d);
    }

    public int violated() {
        int set = 0;
        for (int i = 0; i < rules.size(); i++) {
            set += ruleValue(i) > rules.get(i).limit() * 1000000L ? (int) Math.pow(2, i) : 0;
        }
        return set;
    }

    // ---- texts

    public int type(char character) {
        if (text.length() == 200) {
            return FULL;
        }
        text.append(character);
        return text.length();
    }

    public int clearText() {
        int had = text.length();
        text.setLength(0);
        return had;
    }

    /**
     * Reads the text by a table: what may follow each kind of number. A state is the item's letter and how many of
     * its numbers have been read.
     */
    public int readText() {
        List<int[]> items = new ArrayList<>();
        int i = 0;
        while (true) {
            if (i == text.length() || "psen".indexOf(text.charAt(i)) < 0) {
                return -100 - i;
            }
            char kind = text.charAt(i++);
            int[] item = {kind, 0, 0, 0};
            for (int number = 1; ; number++) {
                int start = i;
                if (i < text.length() && text.charAt(i) == '-') {
                    i++;
                }
                int digits = 0;
                while (digits < 5 && i < text.length() && "0123456789".indexOf(text.charAt(i)) >= 0) {
                    i++;
                    digits++;
                }
                if (digits == 0) {
                    return -100 - i;
                }
                item[number] = Integer.parseInt(text.substring(start, i));
                if (!inRange(kind, number, item[number])) {
                    return -100 - start;
                }
                char separator = separatorBehind(kind, number);
                boolean there = separator != 0 && i < text.length() && text.charAt(i) == separator;
                if (there) {
                    i++;
                } else if (separator == 0 || separator == 'f') {
                    break;
                } else {
                    return -100 - i;
                }
            }
            items.add(item);
            if (i == text.length()) {
                break;
            }
            if (text.charAt(i) != ';') {
                return -100 - i;
            }
            i++;
        }
        truePart = new int[24];
        trueSpindle = new int[24];
        ex = 0;
        ey = 0;
        for (int[] item : items) {
            switch ((char) item[0]) {
                case 'n' -> setSteps(item[1]);
                case 'e' -> setEccentricity(item[1], item[2]);
                default -> addLobes(item[0] == 's', item[1], item[2], item[3]);
            }
        }
        return items.size();
    }

    private static char separatorBehind(char kind, int number) {
        return switch (kind) {
            case 'n' -> 0;
            case 'e' -> number == 1 ? ',' : 0;
            default -> number == 1 ? 'a' : number == 2 ? 'f' : 0;
        };
    }

    private static boolean inRange(char kind, int number, int value) {
        return switch (kind) {
            case 'n' -> List.of(2, 3, 4, 6, 8, 12).contains(value);
            case 'e' -> within(value, -5000, 5000);
            default -> number == 1 ? within(value, 0, 12) : number == 2 ? within(value, -1000, 1000)
                    : within(value, 0, 23);
        };
    }

    // ---- simulation

    public int setTrue(boolean spindle, int position, int value) {
        if (!within(position, 0, 23) || !within(value, -5000, 5000)) {
            return BAD;
        }
        int[] profile = spindle ? trueSpindle : truePart;
        int had = profile[position];
        profile[position] = value;
        return had;
    }

    public int addLobes(boolean spindle, int lobes, int amplitude, int phase) {
        if (!within(lobes, 0, 12) || !within(amplitude, -1000, 1000) || !within(phase, 0, 23)) {
            return BAD;
        }
        int[] profile = spindle ? trueSpindle : truePart;
        int[] had = profile.clone();
        for (int k = 0; k < 24; k++) {
            int sum = profile[k] + down(big(amplitude).multiply(big(c(lobes * k + phase))), MILLION).intValueExact();
            profile[k] = Math.max(-5000, Math.min(5000, sum));
        }
        return java.util.Arrays.equals(had, profile) ? 0 : 1;
    }

    public int setEccentricity(int x, int y) {
        if (!within(x, -5000, 5000) || !within(y, -5000, 5000)) {
            return BAD;
        }
        boolean changed = x != ex || y != ey;
        ex = x;
        ey = y;
        return changed ? 1 : 0;
    }
}
