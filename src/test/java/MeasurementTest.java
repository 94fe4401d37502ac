/** Promises 1 to 12: a new object, readings, separation. */
public final class MeasurementTest {
    public static void main(String[] args) {
        newObject();
        steps();
        stepsRemoveReadings();
        read();
        simulatedStep();
        simulatedEccentricity();
        simulatedLimits();
        simulateStepNotNow();
        removeReadings();
        progress();
        reading();
        despike();
        despikeEdges();
        despikeErrors();
        separationIntoHalves();
        separationRoundsDown();
        separationErrors();
        isBlind();
        residual();
        Check.finish();
    }

    private static void newObject() {
        RoundnessInstrument x = new RoundnessInstrument();
        Check.same("new progress 0", x.progress(0), 4);
        Check.same("new progress 1", x.progress(1), 0);
        Check.same("new progress 2", x.progress(2), 0);
        Check.same("new progress 3", x.progress(3), 0);
        Check.same("new reading", x.reading(3, 23), Given.NONE);
        Check.profile("new", x, 0);
        Check.same("new undo", x.undo(), Given.NONE);
        Check.same("new redo", x.redo(), Given.NONE);
        Check.same("new meanSquare", x.meanSquare(), 0.0f);
        Check.same("new removeTraces", x.removeTraces(0), 0);
        Check.same("new clearRules", x.clearRules(), 0);
        Check.same("new violated", x.violated(), 0);
        Check.same("new clearText", x.clearText(), 0);
        for (int method = 0; method < 4; method++) {
            Check.same("new roundness", x.roundness(method), 0.0);
            Check.same("new centre", x.centre(method, false), 0);
        }
        Check.same("new load part", x.load(3, 0), 1);
        Check.profile("new true part", x, 0);
        Check.same("new load spindle", x.load(4, 0), 1);
        Check.profile("new true spindle", x, 0);
        x.simulateStep();
        Check.same("new eccentricity", x.reading(0, 0), 0);
    }

    private static void steps() {
        RoundnessInstrument x = new RoundnessInstrument();
        for (int steps = -1; steps <= 25; steps++) {
            boolean allowed = false;
            for (int count : Given.STEP_COUNTS) {
                allowed = allowed || count == steps;
            }
            int before = x.progress(0);
            Check.same("setSteps(" + steps + ")", x.setSteps(steps), allowed ? 0 : Given.BAD);
            Check.same("P after setSteps(" + steps + ")", x.progress(0), allowed ? steps : before);
        }
        Check.same("setSteps MIN", x.setSteps(Integer.MIN_VALUE), Given.BAD);
        Check.same("setSteps MAX", x.setSteps(Integer.MAX_VALUE), Given.BAD);
    }

    private static void stepsRemoveReadings() {
        RoundnessInstrument x = Given.measured(6, 0, 0, 1);
        Check.same("setSteps(7)", x.setSteps(7), Given.BAD);
        Check.same("nothing removed", x.progress(1), 144);
        Check.same("setSteps(6)", x.setSteps(6), 144);
        Check.same("all removed", x.progress(1), 0);
        Check.same("reading removed", x.reading(0, 0), Given.NONE);
        x.read(5);
        Check.same("setSteps(2)", x.setSteps(2), 1);
    }

    private static void read() {
        RoundnessInstrument x = new RoundnessInstrument();
        x.setSteps(2);
        Check.same("read least", x.read(-10000), 1);
        Check.same("read greatest", x.read(10000), 2);
        Check.same("read below", x.read(-10001), Given.BAD);
        Check.same("read above", x.read(10001), Given.BAD);
        Check.same("read MIN", x.read(Integer.MIN_VALUE), Given.BAD);
        for (int n = 3; n <= 48; n++) {
            Check.same("read " + n, x.read(n), n);
        }
        Check.same("read when complete", x.read(0), Given.NOT_NOW);
        Check.same("read a bad value when complete", x.read(10001), Given.BAD);
        Check.same("least reading", x.reading(0, 0), -10000);
        Check.same("greatest reading", x.reading(0, 1), 10000);
        Check.same("last reading", x.reading(1, 23), 48);
        Check.same("count stays", x.progress(1), 48);
    }

    private static void simulatedStep() {
        for (int steps : Given.STEP_COUNTS) {
            RoundnessInstrument x = new RoundnessInstrument();
            x.setSteps(steps);
            x.setTrue(false, 2, 70);
            x.setTrue(true, 5, 9);
            for (int j = 0; j < steps; j++) {
                Check.same("simulateStep " + j + " of " + steps, x.simulateStep(), 24 * (j + 1));
                int turned = (2 + j * (24 / steps)) % 24;
                for (int k = 0; k < 24; k++) {
                    int due = (k == turned ? 70 : 0) + (k == 5 ? 9 : 0);
                    Check.same("reading(" + j + ", " + k + ") of " + steps, x.reading(j, k), due);
                }
            }
        }
    }

    private static void simulatedEccentricity() {
        RoundnessInstrument x = new RoundnessInstrument();
        x.setEccentricity(100, 0);
        x.simulateStep();
        x.simulateStep();
        int[] cosines = {100, 96, 86, 70, 50, 25, 0, -26, -50, -71, -87, -97,
            -100, -97, -87, -71, -50, -26, 0, 25, 50, 70, 86, 96};
        for (int k = 0; k < 24; k++) {
            Check.same("x at " + k, x.reading(0, k), cosines[k]);
            Check.same("x turned at " + k, x.reading(1, k), cosines[(k + 18) % 24]);
        }
        x.setSteps(8);
        x.setEccentricity(0, 100);
        x.simulateStep();
        x.simulateStep();
        for (int k = 0; k < 24; k++) {
            Check.same("y at " + k, x.reading(0, k), cosines[(k + 18) % 24]);
            Check.same("y turned at " + k, x.reading(1, k), cosines[(k + 15) % 24]);
        }
        x.setSteps(2);
        x.setEccentricity(1, -1);
        x.simulateStep();
        Check.same("both are divided together", x.reading(0, 3), 0);
        Check.same("both round down", x.reading(0, 4), -1);
    }

    private static void simulatedLimits() {
        RoundnessInstrument x = new RoundnessInstrument();
        x.setTrue(false, 0, 5000);
        x.setTrue(true, 0, 5000);
        x.setTrue(false, 12, -5000);
        x.setTrue(true, 12, -5000);
        x.setEccentricity(1, 0);
        x.simulateStep();
        Check.same("greatest reading", x.reading(0, 0), 10000);
        Check.same("least reading", x.reading(0, 12), -10000);
        x.setEccentricity(-1, 0);
        x.setSteps(2);
        x.simulateStep();
        Check.same("below the greatest reading", x.reading(0, 0), 9999);
        Check.same("above the least reading", x.reading(0, 12), -9999);
        x.setEccentricity(5000, 5000);
        x.setSteps(2);
        x.simulateStep();
        Check.same("eccentricity alone", x.reading(0, 3), 7071);
        Check.same("eccentricity alone, negative", x.reading(0, 15), -7072);
    }

    private static void simulateStepNotNow() {
        RoundnessInstrument x = new RoundnessInstrument();
        x.setSteps(2);
        x.read(1);
        Check.same("step begun", x.simulateStep(), Given.NOT_NOW);
        Check.same("step begun, count", x.progress(1), 1);
        for (int i = 1; i < 23; i++) {
            x.read(1);
        }
        Check.same("step nearly finished", x.simulateStep(), Given.NOT_NOW);
        x.read(1);
        Check.same("step finished", x.simulateStep(), 48);
        Check.same("complete", x.simulateStep(), Given.NOT_NOW);
        Check.same("complete, count", x.progress(1), 48);
    }

    private static void removeReadings() {
        RoundnessInstrument x = new RoundnessInstrument();
        Check.same("remove none of none", x.removeReadings(0), 0);
        Check.same("remove one of none", x.removeReadings(1), Given.BAD);
        for (int i = 1; i <= 30; i++) {
            x.read(i);
        }
        Check.same("remove -1", x.removeReadings(-1), Given.BAD);
        Check.same("remove 31 of 30", x.removeReadings(31), Given.BAD);
        Check.same("remove MAX", x.removeReadings(Integer.MAX_VALUE), Given.BAD);
        Check.same("remove none", x.removeReadings(0), 30);
        Check.same("remove 7", x.removeReadings(7), 23);
        Check.same("the latest are removed", x.reading(0, 23), Given.NONE);
        Check.same("the others stay", x.reading(0, 22), 23);
        Check.same("read again", x.read(-5), 24);
        Check.same("the new reading", x.reading(0, 23), -5);
        Check.same("remove all", x.removeReadings(24), 0);
        RoundnessInstrument y = Given.measured(2, 0, 0, 4);
        Check.same("remove one of a complete measurement", y.removeReadings(1), 47);
        Check.same("not complete then", y.part(0), Given.NO_VALUE);
    }

    private static void progress() {
        RoundnessInstrument x = new RoundnessInstrument();
        x.setSteps(3);
        for (int n = 0; n <= 72; n++) {
            Check.same("progress(0)", x.progress(0), 3);
            Check.same("progress(1)", x.progress(1), n);
            Check.same("progress(2)", x.progress(2), n / 24);
            Check.same("progress(3)", x.progress(3), n == 72 ? Given.NONE : n % 24);
            x.read(0);
        }
        Check.same("progress(-1)", x.progress(-1), Given.BAD);
        Check.same("progress(4)", x.progress(4), Given.BAD);
        Check.same("progress(MIN)", x.progress(Integer.MIN_VALUE), Given.BAD);
    }

    private static void reading() {
        RoundnessInstrument x = new RoundnessInstrument();
        x.setSteps(2);
        for (int i = 0; i < 30; i++) {
            x.read(100 + i);
        }
        Check.same("first", x.reading(0, 0), 100);
        Check.same("last of a step", x.reading(0, 23), 123);
        Check.same("first of the next step", x.reading(1, 0), 124);
        Check.same("latest", x.reading(1, 5), 129);
        Check.same("next", x.reading(1, 6), Given.NONE);
        Check.same("last", x.reading(1, 23), Given.NONE);
        Check.same("step -1", x.reading(-1, 0), Given.BAD);
        Check.same("step P", x.reading(2, 0), Given.BAD);
        Check.same("position -1", x.reading(1, -1), Given.BAD);
        Check.same("position 24", x.reading(0, 24), Given.BAD);
        Check.same("step MAX", x.reading(Integer.MAX_VALUE, 0), Given.BAD);
        Check.same("position MIN", x.reading(0, Integer.MIN_VALUE), Given.BAD);
    }

    private static void despike() {
        RoundnessInstrument x = Given.measured(2, 1, 0, 100);
        Check.same("100 between zeros, limit 100", x.despike(1, 100), 0);
        Check.same("not changed", x.reading(1, 0), 100);
        Check.same("other step", x.despike(0, 0), 0);
        Check.same("100 between zeros, limit 99", x.despike(1, 99), 1);
        Check.same("replaced across 23 and 1", x.reading(1, 0), 0);
        x = Given.measured(2, 0, 23, -100);
        Check.same("all three, limit 49", x.despike(0, 49), 3);
        Check.same("before", x.reading(0, 22), -50);
        Check.same("the spike", x.reading(0, 23), 0);
        Check.same("after", x.reading(0, 0), -50);
        Check.same("two after", x.reading(0, 1), 0);
        Check.same("the other step stays", x.reading(1, 23), 0);
    }

    private static void despikeEdges() {
        RoundnessInstrument x = Given.measured(2, 0, 7, 1);
        Check.same("limit 0", x.despike(0, 0), 3);
        Check.same("half is rounded down", x.reading(0, 6), 0);
        Check.same("spike of 1", x.reading(0, 7), 0);
        x = Given.measured(2, 0, 7, -1);
        Check.same("limit 0, negative", x.despike(0, 0), 3);
        Check.same("negative half is rounded down", x.reading(0, 6), -1);
        Check.same("negative half is rounded down, after", x.reading(0, 8), -1);
        x = Given.measured(2, 0, 7, 1);
        Check.same("limit 0 again", x.despike(0, 0), 3);
        Check.same("a replaced reading may stay the same", x.reading(0, 8), 0);
        x = new RoundnessInstrument();
        x.setSteps(2);
        for (int i = 0; i < 24; i++) {
            x.read(i % 2 == 0 ? 10000 : -10000);
        }
        Check.same("greatest limit", x.despike(0, 20000), 0);
        Check.same("just below", x.despike(0, 19999), 24);
        Check.same("swapped", x.reading(0, 0), -10000);
        Check.same("swapped too", x.reading(0, 23), 10000);
    }

    private static void despikeErrors() {
        RoundnessInstrument x = new RoundnessInstrument();
        Check.same("no step", x.despike(0, 10), Given.BAD);
        x.simulateStep();
        Check.same("limit -1", x.despike(0, -1), Given.BAD);
        Check.same("limit 20001", x.despike(0, 20001), Given.BAD);
        Check.same("step -1", x.despike(-1, 10), Given.BAD);
        Check.same("step 1 not begun", x.despike(1, 10), Given.BAD);
        x.read(1);
        Check.same("step 1 not finished", x.despike(1, 10), Given.BAD);
        Check.same("step 0 finished", x.despike(0, 10), 0);
        Check.same("step 4", x.despike(4, 10), Given.BAD);
        Check.same("step MAX", x.despike(Integer.MAX_VALUE, 10), Given.BAD);
    }

    private static void separationIntoHalves() {
        RoundnessInstrument x = Given.measured(2, 0, 0, 1);
        for (int k = 0; k < 24; k++) {
            Check.same("part(" + k + ")", x.part(k), k == 0 ? 250000 : k == 12 ? -250000 : 0);
            Check.same("spindle(" + k + ")", x.spindle(k), k == 0 ? 500000 : 0);
        }
        x = Given.measured(2, 1, 3, 1);
        for (int k = 0; k < 24; k++) {
            Check.same("turned part(" + k + ")", x.part(k), k == 15 ? 250000 : k == 3 ? -250000 : 0);
            Check.same("turned spindle(" + k + ")", x.spindle(k), k == 3 ? 500000 : 0);
        }
    }

    private static void separationRoundsDown() {
        RoundnessInstrument x = Given.measured(3, 0, 0, 1);
        Check.same("spindle", x.spindle(0), 333333);
        Check.same("part", x.part(0), 222222);
        Check.same("part 8", x.part(8), -111112);
        Check.same("part 16", x.part(16), -111112);
        x = Given.measured(3, 0, 0, -1);
        Check.same("negative spindle", x.spindle(0), -333334);
        Check.same("negative part", x.part(0), -222223);
        Check.same("negative part 8", x.part(8), 111111);
        x = Given.measured(12, 11, 23, 10000);
        Check.same("great spindle", x.spindle(23), 833333333L);
        Check.same("great part", x.part(1), 763888888L);
        Check.same("great part elsewhere", x.part(23), -69444445L);
    }

    private static void separationErrors() {
        RoundnessInstrument x = Given.measured(4, 0, 0, 8);
        Check.same("part(-1)", x.part(-1), Given.NO_VALUE);
        Check.same("part(24)", x.part(24), Given.NO_VALUE);
        Check.same("spindle(-1)", x.spindle(-1), Given.NO_VALUE);
        Check.same("spindle(24)", x.spindle(24), Given.NO_VALUE);
        Check.same("part(MIN)", x.part(Integer.MIN_VALUE), Given.NO_VALUE);
        Check.same("spindle(MAX)", x.spindle(Integer.MAX_VALUE), Given.NO_VALUE);
        x.removeReadings(1);
        Check.same("part, not complete", x.part(0), Given.NO_VALUE);
        Check.same("spindle, not complete", x.spindle(0), Given.NO_VALUE);
        Check.same("residual, not complete", x.residual(), Given.NO_VALUE);
        Check.same("residual of nothing", new RoundnessInstrument().residual(), Given.NO_VALUE);
    }

    private static void isBlind() {
        RoundnessInstrument x = new RoundnessInstrument();
        for (int steps : Given.STEP_COUNTS) {
            x.setSteps(steps);
            for (int lobes = 1; lobes <= 12; lobes++) {
                Check.same("isBlind(" + lobes + ") with " + steps, x.isBlind(lobes), lobes % steps == 0 ? 1 : 0);
            }
        }
        Check.same("isBlind(0)", x.isBlind(0), Given.BAD);
        Check.same("isBlind(13)", x.isBlind(13), Given.BAD);
        Check.same("isBlind(-12)", x.isBlind(-12), Given.BAD);
    }

    private static void residual() {
        Check.same("residual", Given.measured(3, 0, 0, 1).residual(), 444445);
        Check.same("residual of the second step", Given.measured(3, 1, 5, 1).residual(), 444445);
        Check.same("residual of halves", Given.measured(2, 0, 0, 1).residual(), 250000);
        Check.same("negative residual", Given.measured(2, 0, 0, -1).residual(), 250000);
        Check.same("residual of a turned reading", Given.measured(2, 1, 7, 4).residual(), 1000000);
        Check.same("residual of zeros", Given.measured(8, 0, 0, 0).residual(), 0);
    }
}
