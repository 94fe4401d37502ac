import java.util.ArrayList;
import java.util.List;
import java.util.function.Supplier;

/**
 * "A call that reports an error changes nothing." Every error of every method is provoked on an instrument in which
 * there is much to change; its whole state is then compared with that of an instrument without the refused call.
 */
final class Refusals {
    private static final long BAD = Given.BAD;
    private static final long NO_VALUE = Given.NO_VALUE;

    private static Supplier<RoundnessInstrument> made;

    private Refusals() {
    }

    private interface Call {
        double on(RoundnessInstrument x);
    }

    static void run() {
        Doc.describes("A call that reports an error changes nothing");
        made = Refusals::halfway;
        measurement();
        sources();
        profiles();
        roundness();
        traces();
        rulesAndSimulation();
        made = Refusals::complete;
        completeMeasurement();
        made = Refusals::atTheLimit;
        tooGreat();
        made = Refusals::full;
        noRoom();
        made = () -> textOf("p1a1;".repeat(40));
        texts();
        made = RoundnessInstrument::new;
        nothingThere();
    }

    private static void refused(String call, long due, Call refused) {
        RoundnessInstrument x = made.get();
        Check.same(call, refused.on(x), (double) due);
        Check.isTrue("nothing changes by " + call, stateOf(x).equals(stateOf(made.get())));
    }

    // ---- instruments

    /** A step is finished and another one begun; there are traces, rules, a text, and calls to undo and to redo. */
    private static RoundnessInstrument halfway() {
        RoundnessInstrument x = new RoundnessInstrument();
        x.setSteps(2);
        x.addLobes(false, 3, 700, 1);
        x.addLobes(true, 2, 50, 4);
        x.setEccentricity(-12, 34);
        x.simulateStep();
        x.read(77);
        x.addRule(0, 12, 1, 300);
        x.addRule(2, 3, 2, 3000);
        fillProfiles(x);
        Given.type(x, "p3a9;e1,2;n8");
        return x;
    }

    private static void fillProfiles(RoundnessInstrument x) {
        x.load(3, 0);
        x.storeTrace(0);
        x.rotate(5);
        x.storeTrace(50);
        x.load(0, 0);
        x.keepLobes(1, 9);
        x.rotate(-7);
        x.undo();
        x.undo();
    }

    private static RoundnessInstrument complete() {
        RoundnessInstrument x = halfway();
        x.removeReadings(1);
        x.simulateStep();
        return x;
    }

    /** The present profile has the greatest value that there may be, and a step would make it greater. */
    private static RoundnessInstrument atTheLimit() {
        RoundnessInstrument x = Given.measured(2, 0, 0, 10000);
        for (int i = 1; i <= 4; i++) {
            x.subtract(0, 0);
        }
        x.rotate(1);
        x.undo();
        return x;
    }

    private static RoundnessInstrument full() {
        RoundnessInstrument x = halfway();
        for (int height = 1; height <= 4; height++) {
            x.storeTrace(height);
        }
        for (int rule = 2; rule < 8; rule++) {
            x.addRule(rule, 12, 0, rule);
        }
        return x;
    }

    private static RoundnessInstrument textOf(String text) {
        RoundnessInstrument x = new RoundnessInstrument();
        x.setTrue(false, 3, 5);
        x.setTrue(true, 4, 6);
        x.setEccentricity(70, -80);
        x.simulateStep();
        Given.type(x, text);
        return x;
    }

    // ---- their state

    private static List<Long> stateOf(RoundnessInstrument x) {
        List<Long> state = new ArrayList<>();
        for (int what = 0; what < 4; what++) {
            state.add((long) x.progress(what));
        }
        for (int i = 0; i < 2 * 24; i++) {
            state.add((long) x.reading(i / 24, i % 24));
        }
        for (int k = 0; k < 24; k++) {
            state.add(x.profile(k));
        }
        for (int trace = 0; trace < 6; trace++) {
            state.add(x.traceValue(trace, 0));
            state.add(x.traceValue(trace, 1));
        }
        for (int rule = 0; rule < 8; rule++) {
            state.add(x.ruleValue(rule));
        }
        state.add((long) x.violated());
        addHistory(x, state);
        addSimulation(x, state);
        state.add((long) x.readText());
        state.add((long) x.clearText());
        return state;
    }

    private static void addHistory(RoundnessInstrument x, List<Long> state) {
        long left = 0;
        for (int i = 0; i < 21 && left != Given.NONE; i++) {
            left = x.redo();
            state.add(left);
            state.add(x.profile(3));
        }
        left = 0;
        for (int i = 0; i < 21 && left != Given.NONE; i++) {
            left = x.undo();
            state.add(left);
            state.add(x.profile(3));
        }
    }

    private static void addSimulation(RoundnessInstrument x, List<Long> state) {
        for (int k = 0; k < 24; k++) {
            state.add((long) x.setTrue(false, k, 0));
            state.add((long) x.setTrue(true, k, 0));
        }
        x.setSteps(2);
        x.simulateStep();
        state.add((long) x.reading(0, 0));
        state.add((long) x.reading(0, 6));
    }

    // ---- what is refused

    private static void measurement() {
        refused("setSteps(5)", BAD, x -> x.setSteps(5));
        refused("setSteps(0)", BAD, x -> x.setSteps(0));
        refused("read(10001)", BAD, x -> x.read(10001));
        refused("read(-10001)", BAD, x -> x.read(-10001));
        refused("simulateStep()", Given.NOT_NOW, x -> x.simulateStep());
        refused("removeReadings(-1)", BAD, x -> x.removeReadings(-1));
        refused("removeReadings(26)", BAD, x -> x.removeReadings(26));
        refused("progress(-1)", BAD, x -> x.progress(-1));
        refused("progress(4)", BAD, x -> x.progress(4));
        refused("reading(-1, 0)", BAD, x -> x.reading(-1, 0));
        refused("reading(2, 0)", BAD, x -> x.reading(2, 0));
        refused("reading(0, -1)", BAD, x -> x.reading(0, -1));
        refused("reading(0, 24)", BAD, x -> x.reading(0, 24));
        refused("reading(1, 1)", Given.NONE, x -> x.reading(1, 1));
        refused("despike(-1, 0)", BAD, x -> x.despike(-1, 0));
        refused("despike(1, 0)", BAD, x -> x.despike(1, 0));
        refused("despike(2, 0)", BAD, x -> x.despike(2, 0));
        refused("despike(0, -1)", BAD, x -> x.despike(0, -1));
        refused("despike(0, 20001)", BAD, x -> x.despike(0, 20001));
        refused("part(0)", NO_VALUE, x -> x.part(0));
        refused("spindle(0)", NO_VALUE, x -> x.spindle(0));
        refused("residual()", NO_VALUE, x -> x.residual());
        refused("isBlind(0)", BAD, x -> x.isBlind(0));
        refused("isBlind(13)", BAD, x -> x.isBlind(13));
    }

    private static void sources() {
        int[][] bad = {{-1, 0}, {5, 0}, {0, -1}, {0, 2}};
        int[][] notNow = {{0, 1}, {1, 0}, {2, 0}};
        for (int[] pair : bad) {
            String arguments = "(" + pair[0] + ", " + pair[1] + ")";
            refused("load" + arguments, BAD, x -> x.load(pair[0], pair[1]));
            refused("subtract" + arguments, BAD, x -> x.subtract(pair[0], pair[1]));
        }
        for (int[] pair : notNow) {
            String arguments = "(" + pair[0] + ", " + pair[1] + ")";
            refused("load" + arguments, Given.NOT_NOW, x -> x.load(pair[0], pair[1]));
            refused("subtract" + arguments, Given.NOT_NOW, x -> x.subtract(pair[0], pair[1]));
        }
    }

    private static void profiles() {
        refused("profile(-1)", NO_VALUE, x -> x.profile(-1));
        refused("profile(24)", NO_VALUE, x -> x.profile(24));
        refused("rotate(-24)", BAD, x -> x.rotate(-24));
        refused("rotate(24)", BAD, x -> x.rotate(24));
        refused("keepLobes(-1, 3)", BAD, x -> x.keepLobes(-1, 3));
        refused("keepLobes(4, 3)", BAD, x -> x.keepLobes(4, 3));
        refused("keepLobes(4, 13)", BAD, x -> x.keepLobes(4, 13));
        refused("vBlock(0)", BAD, x -> x.vBlock(0));
        refused("vBlock(6)", BAD, x -> x.vBlock(6));
        refused("isBlindInVBlock(0, 1)", BAD, x -> x.isBlindInVBlock(0, 1));
        refused("isBlindInVBlock(6, 1)", BAD, x -> x.isBlindInVBlock(6, 1));
        refused("isBlindInVBlock(1, 0)", BAD, x -> x.isBlindInVBlock(1, 0));
        refused("isBlindInVBlock(1, 13)", BAD, x -> x.isBlindInVBlock(1, 13));
        refused("harmonic(-1, true)", NO_VALUE, x -> x.harmonic(-1, true));
        refused("harmonic(13, false)", NO_VALUE, x -> x.harmonic(13, false));
        refused("strength(-1)", NO_VALUE, x -> x.strength(-1));
        refused("strength(13)", NO_VALUE, x -> x.strength(13));
        refused("dominant(-1)", BAD, x -> x.dominant(-1));
        refused("dominant(13)", BAD, x -> x.dominant(13));
    }

    private static void roundness() {
        for (int method : new int[] {-1, 4}) {
            refused("centre by " + method, NO_VALUE, x -> x.centre(method, true));
            refused("deviation by " + method, NO_VALUE, x -> x.deviation(method, 0));
            refused("roundness by " + method, -1, x -> x.roundness(method));
            refused("extreme by " + method, BAD, x -> x.extreme(method, true));
            refused("materialAt by " + method, BAD, x -> x.materialAt(method, 0));
            refused("depthFor by " + method, NO_VALUE, x -> x.depthFor(method, 1));
        }
        refused("deviation(0, -1)", NO_VALUE, x -> x.deviation(0, -1));
        refused("deviation(0, 24)", NO_VALUE, x -> x.deviation(0, 24));
        refused("materialAt(0, -1)", BAD, x -> x.materialAt(0, -1));
        refused("depthFor(0, 0)", NO_VALUE, x -> x.depthFor(0, 0));
        refused("depthFor(0, 25)", NO_VALUE, x -> x.depthFor(0, 25));
    }

    private static void traces() {
        refused("storeTrace(-1)", BAD, x -> x.storeTrace(-1));
        refused("storeTrace(101)", BAD, x -> x.storeTrace(101));
        refused("storeTrace(50)", BAD, x -> x.storeTrace(50));
        refused("removeTraces(-1)", BAD, x -> x.removeTraces(-1));
        refused("removeTraces(3)", BAD, x -> x.removeTraces(3));
        refused("axis(-1, true)", NO_VALUE, x -> x.axis(-1, true));
        refused("axis(101, true)", NO_VALUE, x -> x.axis(101, true));
        refused("traceValue(0, -1)", NO_VALUE, x -> x.traceValue(0, -1));
        refused("traceValue(0, 4)", NO_VALUE, x -> x.traceValue(0, 4));
        refused("difference(0, 1, -1)", NO_VALUE, x -> x.difference(0, 1, -1));
        refused("difference(0, 1, 24)", NO_VALUE, x -> x.difference(0, 1, 24));
        for (int trace : new int[] {-1, 2}) {
            refused("recall(" + trace + ")", BAD, x -> x.recall(trace));
            refused("traceValue(" + trace + ", 0)", NO_VALUE, x -> x.traceValue(trace, 0));
            refused("difference(" + trace + ", 0, 0)", NO_VALUE, x -> x.difference(trace, 0, 0));
            refused("difference(0, " + trace + ", 0)", NO_VALUE, x -> x.difference(0, trace, 0));
            refused("bestRotation(" + trace + ", 0)", BAD, x -> x.bestRotation(trace, 0));
            refused("bestRotation(0, " + trace + ")", BAD, x -> x.bestRotation(0, trace));
        }
    }

    private static void rulesAndSimulation() {
        refused("addRule(-1, 3, 0, 0)", BAD, x -> x.addRule(-1, 3, 0, 0));
        refused("addRule(4, 3, 0, 0)", BAD, x -> x.addRule(4, 3, 0, 0));
        refused("addRule(4, 13, 0, 0)", BAD, x -> x.addRule(4, 13, 0, 0));
        refused("addRule(1, 2, -1, 0)", BAD, x -> x.addRule(1, 2, -1, 0));
        refused("addRule(1, 2, 4, 0)", BAD, x -> x.addRule(1, 2, 4, 0));
        refused("addRule(1, 2, 0, -1)", BAD, x -> x.addRule(1, 2, 0, -1));
        refused("addRule(1, 2, 0, 20001)", BAD, x -> x.addRule(1, 2, 0, 20001));
        refused("ruleValue(-1)", NO_VALUE, x -> x.ruleValue(-1));
        refused("ruleValue(2)", NO_VALUE, x -> x.ruleValue(2));
        refused("setTrue(false, -1, 1)", BAD, x -> x.setTrue(false, -1, 1));
        refused("setTrue(true, 24, 1)", BAD, x -> x.setTrue(true, 24, 1));
        refused("setTrue(false, 0, -5001)", BAD, x -> x.setTrue(false, 0, -5001));
        refused("setTrue(true, 0, 5001)", BAD, x -> x.setTrue(true, 0, 5001));
        refused("addLobes(false, -1, 9, 0)", BAD, x -> x.addLobes(false, -1, 9, 0));
        refused("addLobes(true, 13, 9, 0)", BAD, x -> x.addLobes(true, 13, 9, 0));
        refused("addLobes(false, 2, -1001, 0)", BAD, x -> x.addLobes(false, 2, -1001, 0));
        refused("addLobes(true, 2, 1001, 0)", BAD, x -> x.addLobes(true, 2, 1001, 0));
        refused("addLobes(false, 2, 9, -1)", BAD, x -> x.addLobes(false, 2, 9, -1));
        refused("addLobes(true, 2, 9, 24)", BAD, x -> x.addLobes(true, 2, 9, 24));
        refused("setEccentricity(-5001, 7)", BAD, x -> x.setEccentricity(-5001, 7));
        refused("setEccentricity(5001, 7)", BAD, x -> x.setEccentricity(5001, 7));
        refused("setEccentricity(7, -5001)", BAD, x -> x.setEccentricity(7, -5001));
        refused("setEccentricity(7, 5001)", BAD, x -> x.setEccentricity(7, 5001));
    }

    private static void completeMeasurement() {
        refused("read(0), complete", Given.NOT_NOW, x -> x.read(0));
        refused("read(-10001), complete", BAD, x -> x.read(-10001));
        refused("simulateStep(), complete", Given.NOT_NOW, x -> x.simulateStep());
        refused("removeReadings(49), complete", BAD, x -> x.removeReadings(49));
        refused("progress(3), complete", Given.NONE, x -> x.progress(3));
        refused("part(-1)", NO_VALUE, x -> x.part(-1));
        refused("part(24)", NO_VALUE, x -> x.part(24));
        refused("spindle(-1)", NO_VALUE, x -> x.spindle(-1));
        refused("spindle(24)", NO_VALUE, x -> x.spindle(24));
        refused("load(0, 2), complete", BAD, x -> x.load(0, 2));
        refused("subtract(0, 2), complete", BAD, x -> x.subtract(0, 2));
    }

    private static void tooGreat() {
        refused("subtract(0, 0), too great", BAD, x -> x.subtract(0, 0));
        refused("vBlock(5), too great", BAD, x -> x.vBlock(5));
    }

    private static void noRoom() {
        refused("storeTrace(7), full", Given.FULL, x -> x.storeTrace(7));
        refused("storeTrace(4), full", BAD, x -> x.storeTrace(4));
        refused("removeTraces(7), full", BAD, x -> x.removeTraces(7));
        refused("addRule(0, 12, 0, 0), full", Given.FULL, x -> x.addRule(0, 12, 0, 0));
        refused("addRule(0, 13, 0, 0), full", BAD, x -> x.addRule(0, 13, 0, 0));
    }

    private static void texts() {
        refused("type('q'), full", Given.FULL, x -> x.type('q'));
        refused("readText() that ends too early", -300, x -> x.readText());
        made = () -> textOf("n2;p0a5;s0a5;e1,1;x");
        refused("readText() with a fault", -118, x -> x.readText());
        made = () -> textOf("n2;p0a5;s0a5;e1,1;n5");
        refused("readText() with a number out of range", -119, x -> x.readText());
        made = () -> textOf("");
        refused("readText() of nothing", -100, x -> x.readText());
    }

    private static void nothingThere() {
        refused("undo() of nothing", Given.NONE, x -> x.undo());
        refused("redo() of nothing", Given.NONE, x -> x.redo());
        refused("removeReadings(1) of nothing", BAD, x -> x.removeReadings(1));
        refused("removeTraces(1) of nothing", BAD, x -> x.removeTraces(1));
        refused("taper() of nothing", NO_VALUE, x -> x.taper());
        refused("recall(0) of nothing", BAD, x -> x.recall(0));
        refused("ruleValue(0) of nothing", NO_VALUE, x -> x.ruleValue(0));
        made = () -> {
            RoundnessInstrument x = Given.spikes(3, 9);
            x.storeTrace(8);
            return x;
        };
        refused("axis(8, true) of one trace", NO_VALUE, x -> x.axis(8, true));
        refused("cylindricity() of one trace", -1, x -> x.cylindricity());
        refused("farthestTrace() of one trace", Given.NOT_NOW, x -> x.farthestTrace());
        refused("redo() of nothing undone", Given.NONE, x -> x.redo());
    }
}
