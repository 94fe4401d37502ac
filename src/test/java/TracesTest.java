/** Promises 33 to 42: traces and the cylinder that they form. */
public final class TracesTest {
    public static void main(String[] args) {
        storeTrace();
        storeTraceErrors();
        removeTraces();
        recall();
        traceValue();
        axis();
        axisRoundsDown();
        axisErrors();
        cylindricity();
        farthestTrace();
        taper();
        difference();
        bestRotation();
        matchErrors();
        Check.finish();
    }

    /** A trace for each triple of a position, a value there in whole units, and a height. */
    private static RoundnessInstrument traces(int... triples) {
        RoundnessInstrument x = new RoundnessInstrument();
        for (int i = 0; i < triples.length; i += 3) {
            Given.loadSpikes(x, triples[i], triples[i + 1]);
            x.storeTrace(triples[i + 2]);
        }
        return x;
    }

    private static void storeTrace() {
        RoundnessInstrument x = Given.spikes(0, 1);
        Check.same("height 0", x.storeTrace(0), 0);
        Check.same("height 100", x.storeTrace(100), 1);
        Check.same("height 50", x.storeTrace(50), 2);
        Check.same("height 1", x.storeTrace(1), 3);
        Check.same("height 99", x.storeTrace(99), 4);
        Check.same("height 2", x.storeTrace(2), 5);
        Check.same("a seventh", x.storeTrace(3), Given.FULL);
        Check.same("a seventh of a known height", x.storeTrace(2), Given.BAD);
        Check.same("a seventh of a wrong height", x.storeTrace(101), Given.BAD);
        x.rotate(1);
        x.recall(5);
        Check.same("the trace is a copy", x.profile(0), 1000000);
    }

    private static void storeTraceErrors() {
        RoundnessInstrument x = new RoundnessInstrument();
        Check.same("height -1", x.storeTrace(-1), Given.BAD);
        Check.same("height 101", x.storeTrace(101), Given.BAD);
        Check.same("height MIN", x.storeTrace(Integer.MIN_VALUE), Given.BAD);
        Check.same("height 7", x.storeTrace(7), 0);
        Check.same("height 7 again", x.storeTrace(7), Given.BAD);
        Check.same("only one trace", x.removeTraces(1), 0);
        Check.same("height 7 is free", x.storeTrace(7), 0);
    }

    private static void removeTraces() {
        RoundnessInstrument x = traces(0, 1, 10, 1, 2, 20, 2, 3, 30);
        Check.same("remove -1", x.removeTraces(-1), Given.BAD);
        Check.same("remove 4 of 3", x.removeTraces(4), Given.BAD);
        Check.same("remove MAX", x.removeTraces(Integer.MAX_VALUE), Given.BAD);
        Check.same("remove 0", x.removeTraces(0), 3);
        Check.same("remove 1", x.removeTraces(1), 2);
        Check.same("the highest number is gone", x.traceValue(2, 0), Given.NO_VALUE);
        Check.same("the others stay", x.traceValue(1, 0), 20);
        Check.same("its height is free", x.storeTrace(30), 2);
        Check.same("remove all", x.removeTraces(3), 0);
        Check.same("nothing left", x.taper(), Given.NO_VALUE);
    }

    private static void recall() {
        RoundnessInstrument x = traces(0, 1, 10, 5, 2, 20);
        Check.same("recall the present one", x.recall(1), 0);
        Check.same("recall another", x.recall(0), 1);
        Check.same("recalled", x.profile(0), 1000000);
        Check.same("recalled, elsewhere", x.profile(5), 0);
        Check.same("recall -1", x.recall(-1), Given.BAD);
        Check.same("recall 2", x.recall(2), Given.BAD);
        Check.same("recall MAX", x.recall(Integer.MAX_VALUE), Given.BAD);
        Check.same("both are remembered", x.undo(), 3);
        Check.same("undone", x.profile(5), 2000000);
    }

    private static void traceValue() {
        RoundnessInstrument x = traces(1, 24, 17, 6, -24, 0);
        long[][] due = {{17, 1931852, 517638, 1000000}, {0, 0, -2000000, -1000000}};
        for (int trace = 0; trace < 2; trace++) {
            for (int what = 0; what < 4; what++) {
                Check.same("traceValue(" + trace + ", " + what + ")", x.traceValue(trace, what), due[trace][what]);
            }
        }
        Check.same("trace -1", x.traceValue(-1, 0), Given.NO_VALUE);
        Check.same("trace 2", x.traceValue(2, 0), Given.NO_VALUE);
        Check.same("what -1", x.traceValue(0, -1), Given.NO_VALUE);
        Check.same("what 4", x.traceValue(0, 4), Given.NO_VALUE);
        Check.same("trace MIN", x.traceValue(Integer.MIN_VALUE, 0), Given.NO_VALUE);
        Check.same("what MAX", x.traceValue(0, Integer.MAX_VALUE), Given.NO_VALUE);
    }

    private static void axis() {
        RoundnessInstrument x = traces(0, 12, 0, 0, 36, 50);
        Check.same("at the first trace", x.axis(0, false), 1000000);
        Check.same("between", x.axis(25, false), 2000000);
        Check.same("at the second trace", x.axis(50, false), 3000000);
        Check.same("above", x.axis(100, false), 5000000);
        Check.same("y", x.axis(100, true), 0);
        x = traces(6, 36, 100, 6, 12, 50);
        Check.same("y below", x.axis(0, true), -1000000);
        Check.same("x below", x.axis(0, false), 0);
    }

    private static void axisRoundsDown() {
        RoundnessInstrument x = traces(5, 0, 0, 5, 0, 1, 0, 12, 3);
        Check.same("at 0", x.axis(0, false), -142858);
        Check.same("at 1", x.axis(1, false), 214285);
        Check.same("at 3", x.axis(3, false), 928571);
        Check.same("at 100", x.axis(100, false), 35571428);
        Check.same("y at 100", x.axis(100, true), 0);
        x = traces(6, -12, 10, 0, 12, 11, 6, 24, 13);
        long[][] due = {{0, 1142857, -11000000}, {10, 428571, -1000000}, {11, 357142, 0}, {13, 214285, 2000000},
            {100, -6000000, 89000000}};
        for (long[] row : due) {
            Check.same("x at " + row[0], x.axis((int) row[0], false), row[1]);
            Check.same("y at " + row[0], x.axis((int) row[0], true), row[2]);
        }
    }

    private static void axisErrors() {
        RoundnessInstrument x = new RoundnessInstrument();
        Check.same("no trace", x.axis(0, false), Given.NO_VALUE);
        x.storeTrace(5);
        Check.same("one trace", x.axis(5, true), Given.NO_VALUE);
        x.storeTrace(6);
        Check.same("two traces", x.axis(5, true), 0);
        Check.same("height -1", x.axis(-1, false), Given.NO_VALUE);
        Check.same("height 101", x.axis(101, false), Given.NO_VALUE);
        Check.same("height MAX", x.axis(Integer.MAX_VALUE, false), Given.NO_VALUE);
    }

    private static void cylindricity() {
        Check.same("three traces", traces(5, 0, 0, 5, 0, 1, 0, 12, 3).cylindricity(), 11.968359);
        Check.same("three others", traces(6, -12, 10, 0, 12, 11, 6, 24, 13).cylindricity(), 33.0);
        Check.same("one trace", traces(0, 12, 0).cylindricity(), -1.0);
        Check.same("no trace", new RoundnessInstrument().cylindricity(), -1.0);
    }

    private static void farthestTrace() {
        Check.same("three traces", traces(5, 0, 0, 5, 0, 1, 0, 12, 3).farthestTrace(), 1);
        Check.same("y counts", traces(5, 0, 0, 5, 0, 1, 6, -12, 3).farthestTrace(), 1);
        Check.same("two traces", traces(0, 12, 0, 6, 36, 50).farthestTrace(), 0);
        Check.same("all on the axis", traces(0, 12, 0, 0, 36, 50, 0, 60, 100).farthestTrace(), 0);
        Check.same("the last one", traces(0, 12, 10, 0, 36, 70, 0, 12, 20, 6, 999, 30).farthestTrace(), 3);
        Check.same("one trace", traces(0, 12, 0).farthestTrace(), Given.NOT_NOW);
        Check.same("no trace", new RoundnessInstrument().farthestTrace(), Given.NOT_NOW);
    }

    private static void taper() {
        Check.same("no trace", new RoundnessInstrument().taper(), Given.NO_VALUE);
        Check.same("one trace", traces(0, 24, 0).taper(), 0);
        Check.same("three traces", traces(0, 24, 0, 1, 72, 1, 2, -48, 2).taper(), 5000000);
        Check.same("all below 0", traces(0, -24, 0, 1, -72, 1).taper(), 2000000);
    }

    private static void difference() {
        RoundnessInstrument x = traces(3, 10, 0, 5, 7, 1);
        Check.same("as they are", x.difference(0, 1, 0), 17000000);
        Check.same("by 2", x.difference(0, 1, 2), 3000000);
        Check.same("by 22", x.difference(0, 1, 22), 17000000);
        Check.same("the other way", x.difference(1, 0, 22), 3000000);
        Check.same("with itself", x.difference(1, 1, 0), 0);
        Check.same("with itself, turned", x.difference(1, 1, 23), 14000000);
    }

    private static void bestRotation() {
        RoundnessInstrument x = traces(3, 10, 0, 5, 7, 1, 0, 0, 2);
        Check.same("first to second", x.bestRotation(0, 1), 2);
        Check.same("second to first", x.bestRotation(1, 0), 22);
        Check.same("itself", x.bestRotation(1, 1), 0);
        Check.same("all alike", x.bestRotation(0, 2), 0);
        for (int by = 0; by < 24; by++) {
            x = Given.spikes(3, 10, 5, -7);
            x.storeTrace(0);
            x.rotate(by);
            x.storeTrace(1);
            Check.same("rotated by " + by, x.bestRotation(0, 1), by);
        }
        x = Given.twoLobes();
        x.storeTrace(0);
        x.rotate(-1);
        x.storeTrace(1);
        Check.same("the first of two", x.bestRotation(0, 1), 11);
    }

    private static void matchErrors() {
        RoundnessInstrument x = traces(3, 10, 0, 5, 7, 1);
        int[] wrong = {-1, 2, 6, Integer.MIN_VALUE, Integer.MAX_VALUE};
        for (int trace : wrong) {
            Check.same("first " + trace, x.difference(trace, 0, 0), Given.NO_VALUE);
            Check.same("second " + trace, x.difference(0, trace, 0), Given.NO_VALUE);
            Check.same("rotation of " + trace, x.bestRotation(trace, 0), Given.BAD);
            Check.same("rotation to " + trace, x.bestRotation(0, trace), Given.BAD);
        }
        Check.same("by -1", x.difference(0, 1, -1), Given.NO_VALUE);
        Check.same("by 24", x.difference(0, 1, 24), Given.NO_VALUE);
    }
}
