/** Promises 33 to 42 and what the description says about traces, sentence by sentence. */
final class TracesEdges {
    private static final int MIN = Integer.MIN_VALUE;
    private static final int MAX = Integer.MAX_VALUE;

    private TracesEdges() {
    }

    static void run() {
        description();
        axisDescription();
        storeTrace();
        storeTraceErrors();
        removeTraces();
        recall();
        traceValue();
        axis();
        cylindricity();
        farthestTrace();
        taper();
        difference();
        bestRotation();
    }

    /** A trace for each triple of a position, a value there in whole units, and a height. */
    private static RoundnessInstrument traces(int... triples) {
        RoundnessInstrument x = new RoundnessInstrument();
        for (int i = 0; i < triples.length; i += 3) {
            Given.loadSpikes(x, triples[i], triples[i + 1]);
            x.storeTrace(triples[i + 2]);
        }
        return x;
    }

    /** Six traces at the heights 10 to 15, of zeros. */
    private static RoundnessInstrument six() {
        RoundnessInstrument x = new RoundnessInstrument();
        for (int height = 10; height < 16; height++) {
            x.storeTrace(height);
        }
        return x;
    }

    private static void description() {
        Doc.describes("There are up to 6 traces, numbered from 0 in order of addition");
        RoundnessInstrument x = new RoundnessInstrument();
        for (int trace = 0; trace < 6; trace++) {
            Check.same("trace " + trace, x.storeTrace(60 - trace), trace);
        }
        Check.same("a seventh", x.storeTrace(0), Given.FULL);
        for (int trace = 0; trace < 6; trace++) {
            Check.same("height of trace " + trace, x.traceValue(trace, 0), 60 - trace);
        }
        Check.same("no seventh", x.traceValue(6, 0), Given.NO_VALUE);
        Doc.describes("A trace has a profile and a height from 0 to 100");
        x = traces(5, 7, 100, 6, 8, 0);
        Check.same("height 100", x.traceValue(0, 0), 100);
        Check.same("height 0", x.traceValue(1, 0), 0);
        x.recall(0);
        Check.same("profile", x.profile(5), 7000000);
        Doc.describes("all heights are different");
        Check.same("height 100 again", x.storeTrace(100), Given.BAD);
        Check.same("height 0 again", x.storeTrace(0), Given.BAD);
        Check.same("height 99", x.storeTrace(99), 2);
        Doc.describes("Its centre is (A(1), B(1)) and its mean is A(0) of its profile");
        x = traces(14, 24, 5, 13, -24, 6);
        for (int trace = 0; trace < 2; trace++) {
            x.recall(trace);
            Check.same("x", x.traceValue(trace, 1), x.harmonic(1, false));
            Check.same("y", x.traceValue(trace, 2), x.harmonic(1, true));
            Check.same("mean", x.traceValue(trace, 3), x.harmonic(0, false));
        }
        Check.same("x of the first", x.traceValue(0, 1), -1732050);
        Check.same("y of the first", x.traceValue(0, 2), -1000000);
        Check.same("mean of the second", x.traceValue(1, 3), -1000000);
    }

    private static void axisDescription() {
        Doc.describes("With n traces, n at least 2, the axis at a height t is the point whose x is (H2 * X - H * HX + t");
        Check.same("one trace", traces(0, 12, 0).axis(0, false), Given.NO_VALUE);
        RoundnessInstrument x = traces(0, 12, 0, 0, 36, 1);
        Check.same("two traces, at 0", x.axis(0, false), 1000000);
        Check.same("two traces, at 1", x.axis(1, false), 3000000);
        Check.same("two traces, at 100", x.axis(100, false), 201000000);
        // H = 4, H2 = 10, X = 1000000, HX = 3000000, n = 3: (10 - 12 + t * (9 - 4)) * 1000000 / (30 - 16).
        x = traces(5, 0, 0, 5, 0, 1, 0, 12, 3);
        long[][] due = {{0, -142858}, {1, 214285}, {2, 571428}, {3, 928571}, {100, 35571428}};
        for (long[] row : due) {
            Check.same("three traces, x at " + row[0], x.axis((int) row[0], false), row[1]);
            Check.same("three traces, y at " + row[0], x.axis((int) row[0], true), 0);
        }
        Doc.describes("its y is computed likewise");
        x = traces(5, 0, 0, 5, 0, 1, 6, 12, 3);
        for (long[] row : due) {
            Check.same("three traces, y at " + row[0], x.axis((int) row[0], true), row[1]);
            Check.same("three traces, x at " + row[0], x.axis((int) row[0], false), 0);
        }
    }

    private static void storeTrace() {
        Doc.says(33, "Keeps the present profile as a trace");
        RoundnessInstrument x = Given.spikes(4, 9);
        x.storeTrace(7);
        x.rotate(1);
        x.recall(0);
        Check.same("it is kept", x.profile(4), 9000000);
        Check.same("the present one stays when it is stored", x.storeTrace(8), 1);
        Check.same("it stays", x.profile(4), 9000000);
        Check.same("storing is not undone", x.undo(), 2);
        Check.same("the trace stays", x.traceValue(1, 0), 8);
        Doc.says(33, "`height`: 0 to 100");
        x = new RoundnessInstrument();
        Check.same("height 0", x.storeTrace(0), 0);
        Check.same("height 100", x.storeTrace(100), 1);
        Doc.says(33, "Returns the number of the trace");
        Check.same("the third", x.storeTrace(50), 2);
        x.removeTraces(2);
        Check.same("the second again", x.storeTrace(51), 1);
    }

    private static void storeTraceErrors() {
        Doc.says(33, "BAD_VALUE, also if there is a trace with this height");
        RoundnessInstrument x = new RoundnessInstrument();
        for (int height : new int[] {MIN, -1, 101, MAX}) {
            Check.same("height " + height, x.storeTrace(height), Given.BAD);
        }
        Check.same("height 8", x.storeTrace(8), 0);
        Check.same("height 9", x.storeTrace(9), 1);
        Check.same("height 8 again", x.storeTrace(8), Given.BAD);
        Check.same("height 9 again", x.storeTrace(9), Given.BAD);
        x = traces(0, 12, 8, 0, 24, 9);
        x.removeTraces(1);
        Check.same("height 9 is free", x.storeTrace(9), 1);
        x.removeTraces(2);
        Check.same("height 8 is free", x.storeTrace(8), 0);
        Doc.says(33, "FULL if there are 6 traces");
        x = six();
        Check.same("a seventh", x.storeTrace(16), Given.FULL);
        Check.same("a seventh with a known height", x.storeTrace(15), Given.BAD);
        Check.same("a seventh with a bad height", x.storeTrace(101), Given.BAD);
        x.removeTraces(1);
        Check.same("a sixth", x.storeTrace(16), 5);
        Check.same("a seventh again", x.storeTrace(15), Given.FULL);
    }

    private static void removeTraces() {
        Doc.says(34, "Removes the traces with the highest numbers");
        RoundnessInstrument x = six();
        x.removeTraces(2);
        Check.same("trace 3 stays", x.traceValue(3, 0), 13);
        Check.same("trace 4 is gone", x.traceValue(4, 0), Given.NO_VALUE);
        Check.same("it can't be recalled", x.recall(4), Given.BAD);
        Doc.says(34, "`n`: how many, 0 to the number of traces");
        Check.same("none", x.removeTraces(0), 4);
        Check.same("all", x.removeTraces(4), 0);
        Check.same("none of none", x.removeTraces(0), 0);
        Check.same("one of none", x.removeTraces(1), Given.BAD);
        Doc.says(34, "Returns how many are left");
        Check.same("one of six", six().removeTraces(1), 5);
        Check.same("six of six", six().removeTraces(6), 0);
        Doc.says(34, "BAD_VALUE");
        x = traces(0, 1, 10, 1, 2, 20);
        for (int n : new int[] {MIN, -1, 3, 6, MAX}) {
            Check.same("removeTraces(" + n + ")", x.removeTraces(n), Given.BAD);
        }
        Check.same("both stay", x.traceValue(1, 0), 20);
    }

    private static void recall() {
        Doc.says(35, "Makes the profile of a trace the present one");
        RoundnessInstrument x = traces(0, 1, 10, 23, 2, 20);
        x.recall(0);
        Check.same("at 0", x.profile(0), 1000000);
        Check.same("at 23", x.profile(23), 0);
        Doc.says(35, "`trace`: number of a trace");
        Check.same("the last one", x.recall(1), 1);
        Check.same("its profile", x.profile(23), 2000000);
        Doc.says(35, "Returns 1 if this changes the profile, otherwise 0");
        Check.same("the same again", x.recall(1), 0);
        Check.same("the other one", x.recall(0), 1);
        Check.same("all are remembered", x.undo(), 5);
        Doc.says(35, "BAD_VALUE");
        for (int trace : new int[] {MIN, -1, 2, 5, 6, MAX}) {
            Check.same("recall(" + trace + ")", x.recall(trace), Given.BAD);
        }
        Check.same("recall of nothing", new RoundnessInstrument().recall(0), Given.BAD);
        Check.same("errors leave what was undone", x.redo(), 0);
    }

    private static void traceValue() {
        Doc.says(36, "Returns a value of a trace");
        RoundnessInstrument x = traces(1, 24, 17, 18, -24, 0);
        long[][] due = {{17, 1931852, 517638, 1000000}, {0, 0, 2000000, -1000000}};
        Doc.says(36, "`what`: 0 for its height, 1 and 2 for x and y of its centre, 3 for its mean");
        for (int trace = 0; trace < 2; trace++) {
            for (int what = 0; what < 4; what++) {
                Check.same(trace + ", " + what, x.traceValue(trace, what), due[trace][what]);
            }
        }
        Doc.says(36, "Returns the value");
        x.rotate(3);
        x.setTrue(false, 18, 0);
        Check.same("it stays as it was stored", x.traceValue(1, 2), 2000000);
        Doc.says(36, "`trace`: number of a trace");
        for (int trace = 0; trace < 6; trace++) {
            Check.same("height of " + trace, six().traceValue(trace, 0), 10 + trace);
        }
        Doc.says(36, "NO_VALUE");
        for (int trace : new int[] {MIN, -1, 2, 6, MAX}) {
            Check.same("trace " + trace, x.traceValue(trace, 0), Given.NO_VALUE);
        }
        for (int what : new int[] {MIN, -1, 4, MAX}) {
            Check.same("what " + what, x.traceValue(0, what), Given.NO_VALUE);
        }
        Check.same("trace 6 of six", six().traceValue(6, 0), Given.NO_VALUE);
    }

    private static void axis() {
        Doc.says(37, "Returns the axis of all traces at a height");
        RoundnessInstrument x = traces(0, 12, 40, 0, 24, 50, 0, 36, 60);
        Check.same("between", x.axis(45, false), 1500000);
        Doc.says(37, "`height`: 0 to 100");
        Check.same("height 0", x.axis(0, false), -3000000);
        Check.same("height 100", x.axis(100, false), 7000000);
        Doc.says(37, "`vertical`: true for y, false for x");
        Check.same("y", x.axis(0, true), 0);
        Doc.says(37, "Returns the coordinate");
        x = traces(6, -12, 10, 0, 12, 11, 6, 24, 13);
        Check.same("y at 10", x.axis(10, true), -1000000);
        Check.same("x at 10", x.axis(10, false), 428571);
        Doc.says(37, "NO_VALUE if height is out of range or there are fewer than 2 traces");
        for (int height : new int[] {MIN, -1, 101, MAX}) {
            Check.same("x at " + height, x.axis(height, false), Given.NO_VALUE);
            Check.same("y at " + height, x.axis(height, true), Given.NO_VALUE);
        }
        x.removeTraces(1);
        Check.same("two traces", x.axis(10, false), 0);
        x.removeTraces(1);
        Check.same("one trace", x.axis(10, false), Given.NO_VALUE);
        Check.same("no trace", new RoundnessInstrument().axis(10, true), Given.NO_VALUE);
    }

    private static void cylindricity() {
        Doc.says(38, "Returns the cylindricity: the greatest minus the least of all deviations of all traces, each");
        // The axis is x = 1000000 at 0 and 3000000 at 50, the centres of both traces.
        RoundnessInstrument x = traces(0, 12, 0, 0, 36, 50);
        Check.same("both on the axis", x.cylindricity(), 35.897778);
        Check.same("the other way round", traces(0, 36, 50, 0, 12, 0).cylindricity(), 35.897778);
        Check.same("the greatest and the least in different traces", traces(0, 12, 0, 0, -12, 50).cylindricity(), 22.0);
        Doc.says(38, "Returns (double) (this difference) / 1000000");
        Check.same("three traces", traces(5, 0, 0, 5, 0, 1, 0, 12, 3).cylindricity(), 11.968359);
        Check.same("zeros", six().cylindricity(), 0.0);
        Doc.says(38, "-1.0 if there are fewer than 2 traces");
        Check.same("one trace", traces(0, 12, 0).cylindricity(), -1.0);
        Check.same("no trace", new RoundnessInstrument().cylindricity(), -1.0);
        x.removeTraces(1);
        Check.same("one is left", x.cylindricity(), -1.0);
    }

    private static void farthestTrace() {
        Doc.says(39, "Finds the trace whose centre is farthest from the axis at its height, by the sum of the absolute");
        // The axis of x misses the three traces by 142858, -214285 and 71429, so does that of y.
        Check.same("by x", traces(5, 0, 0, 5, 0, 1, 0, 12, 3).farthestTrace(), 1);
        Check.same("by y", traces(5, 0, 0, 5, 0, 1, 6, -12, 3).farthestTrace(), 1);
        // Differences: 63323 and 1787204; 601569 and 228434; 1076491 and 882462; 284953 and 1207583; 823200 and 1233646.
        Check.same("by the sum of both", traces(6, 36, 50, 6, 12, 20, 9, 36, 0, 3, 0, 60, 6, 0, 10).farthestTrace(), 4);
        Doc.says(39, "Returns the number of the trace, the first one of several");
        Check.same("all on the axis", traces(0, 12, 50, 0, 36, 0).farthestTrace(), 0);
        // Differences: 700000, 2100000, 2100000, 700000.
        Check.same("the second and the third", traces(0, 0, 40, 0, -12, 20, 0, 36, 30, 0, 24, 10).farthestTrace(), 1);
        Check.same("the last one", traces(0, 12, 10, 0, 36, 70, 0, 12, 20, 6, 999, 30).farthestTrace(), 3);
        Doc.says(39, "NOT_NOW if there are fewer than 2 traces");
        Check.same("two traces", six().farthestTrace(), 0);
        Check.same("one trace", traces(0, 12, 0).farthestTrace(), Given.NOT_NOW);
        Check.same("no trace", new RoundnessInstrument().farthestTrace(), Given.NOT_NOW);
    }

    private static void taper() {
        Doc.says(40, "Returns the greatest mean of a trace minus the least one");
        Check.same("three traces", traces(0, 24, 0, 1, 72, 1, 2, -48, 2).taper(), 5000000);
        Check.same("all below 0", traces(0, -24, 0, 1, -72, 1).taper(), 2000000);
        Check.same("all above 0", traces(0, 48, 0, 1, 24, 1).taper(), 1000000);
        Check.same("one trace", traces(0, 24, 0).taper(), 0);
        Doc.says(40, "NO_VALUE if there are no traces");
        RoundnessInstrument x = traces(0, 24, 0);
        x.removeTraces(1);
        Check.same("no trace is left", x.taper(), Given.NO_VALUE);
        Check.same("no trace", new RoundnessInstrument().taper(), Given.NO_VALUE);
    }

    private static void difference() {
        Doc.says(41, "the sum of the absolute values of z(k - by) of the first one minus z(k) of the second one over");
        RoundnessInstrument x = traces(23, 10, 0, 1, 7, 1);
        Check.same("by 2, 23 comes to 1", x.difference(0, 1, 2), 3000000);
        Check.same("by 1", x.difference(0, 1, 1), 17000000);
        Check.same("the other way by 2", x.difference(1, 0, 2), 17000000);
        Check.same("the other way by 22", x.difference(1, 0, 22), 3000000);
        Doc.says(41, "`first`: number of a trace");
        Check.same("the last one", x.difference(1, 0, 0), 17000000);
        Doc.says(41, "`second`: number of a trace, perhaps the same one");
        Check.same("the same one", x.difference(0, 0, 0), 0);
        Check.same("the same one turned", x.difference(1, 1, 5), 14000000);
        Doc.says(41, "`by`: 0 to 23");
        Check.same("by 0", x.difference(0, 1, 0), 17000000);
        Check.same("by 23", x.difference(0, 0, 23), 20000000);
        Doc.says(41, "Returns the sum");
        Check.same("zeros", six().difference(0, 5, 23), 0);
        Doc.says(41, "NO_VALUE");
        for (int wrong : new int[] {MIN, -1, MAX}) {
            Check.same("first " + wrong, x.difference(wrong, 0, 0), Given.NO_VALUE);
            Check.same("second " + wrong, x.difference(0, wrong, 0), Given.NO_VALUE);
            Check.same("by " + wrong, x.difference(0, 1, wrong), Given.NO_VALUE);
        }
        Check.same("first 2", x.difference(2, 0, 0), Given.NO_VALUE);
        Check.same("second 2", x.difference(0, 2, 0), Given.NO_VALUE);
        Check.same("by 24", x.difference(0, 1, 24), Given.NO_VALUE);
        Check.same("of nothing", new RoundnessInstrument().difference(0, 0, 0), Given.NO_VALUE);
    }

    private static void bestRotation() {
        Doc.says(42, "Returns the rotation from 0 to 23 with the least difference, the first one of several");
        for (int by = 0; by < 24; by++) {
            RoundnessInstrument turned = Given.spikes(0, 9, 5, -4);
            turned.storeTrace(0);
            turned.rotate(by);
            turned.storeTrace(1);
            Check.same("turned by " + by, turned.bestRotation(0, 1), by);
        }
        RoundnessInstrument x = traces(5, 9, 1, 3, 9, 2, 0, 0, 3);
        Check.same("forward", x.bestRotation(1, 0), 2);
        Check.same("backward", x.bestRotation(0, 1), 22);
        Check.same("zeros to zeros", x.bestRotation(2, 2), 0);
        Check.same("all alike", x.bestRotation(0, 2), 0);
        Given.loadSpikes(x, 6, 1, 18, 1);
        x.storeTrace(4);
        Given.loadSpikes(x, 1, 1, 13, 1);
        x.storeTrace(5);
        Check.same("the first of two", x.bestRotation(3, 4), 7);
        Doc.says(42, "`first`: number of a trace");
        Check.same("the last one", x.bestRotation(4, 3), 5);
        Doc.says(42, "`second`: number of a trace, perhaps the same one");
        Check.same("the same one", x.bestRotation(4, 4), 0);
        Doc.says(42, "BAD_VALUE");
        for (int wrong : new int[] {MIN, -1, 5, 6, MAX}) {
            Check.same("first " + wrong, x.bestRotation(wrong, 0), Given.BAD);
            Check.same("second " + wrong, x.bestRotation(0, wrong), Given.BAD);
        }
        Check.same("of nothing", new RoundnessInstrument().bestRotation(0, 0), Given.BAD);
    }
}
