/** Promises 1 to 12 and what the description says about measurement and separation, sentence by sentence. */
final class MeasurementEdges {
    private static final int MIN = Integer.MIN_VALUE;
    private static final int MAX = Integer.MAX_VALUE;

    private MeasurementEdges() {
    }

    static void run() {
        measurement();
        completeness();
        separation();
        lobesThatAreLost();
        newObject();
        setSteps();
        read();
        simulateStep();
        removeReadings();
        progress();
        reading();
        despike();
        despikeErrors();
        partAndSpindle();
        isBlind();
        residual();
    }

    /** Readings that tell their step and position: 100 * step + position. */
    private static RoundnessInstrument numbered(int steps, int readings) {
        RoundnessInstrument x = new RoundnessInstrument();
        x.setSteps(steps);
        for (int i = 0; i < readings; i++) {
            x.read(100 * (i / 24) + i % 24);
        }
        return x;
    }

    private static void measurement() {
        Doc.describes("The number of steps P is 2, 3, 4, 6, 8 or 12, at first 4");
        Check.same("P at first", new RoundnessInstrument().progress(0), 4);
        RoundnessInstrument x = numbered(4, 96);
        Check.same("complete after 4 steps", x.progress(3), Given.NONE);
        Doc.describes("readings m(j, k) are recorded for the positions k = 0 to 23 in this order");
        for (int k = 0; k < 24; k++) {
            Check.same("step 2, position " + k, x.reading(2, k), 200 + k);
        }
        Doc.describes("steps follow each other");
        Check.same("the last of step 0", x.reading(0, 23), 23);
        Check.same("the first of step 1", x.reading(1, 0), 100);
        Doc.describes("Before each step but the first the part is rotated against the spindle by 24 / P positions");
        for (int steps : Given.STEP_COUNTS) {
            x = new RoundnessInstrument();
            x.setSteps(steps);
            x.setTrue(false, 22, 5);
            x.setTrue(true, 21, 3);
            for (int j = 0; j < steps; j++) {
                x.simulateStep();
                Check.same("the part in step " + j + " of " + steps, x.reading(j, (22 + j * 24 / steps) % 24),
                        (22 + j * 24 / steps) % 24 == 21 ? 8 : 5);
                Check.isTrue("the spindle in step " + j + " of " + steps, x.reading(j, 21) >= 3);
            }
            Check.same("not rotated in step 0 of " + steps, x.reading(0, 22), 5);
        }
    }

    private static void completeness() {
        Doc.describes("The measurement is complete when all P steps have been recorded");
        for (int steps : Given.STEP_COUNTS) {
            RoundnessInstrument x = numbered(steps, steps * 24 - 1);
            Check.same("one reading is missing of " + steps, x.part(0), Given.NO_VALUE);
            Check.same("its position", x.progress(3), 23);
            Check.same("the last reading of " + steps, x.read(1), steps * 24);
            Check.isTrue("complete with " + steps, x.part(0) != Given.NO_VALUE && x.residual() >= 0);
            Check.same("no position of " + steps, x.progress(3), Given.NONE);
            Check.same("no more readings of " + steps, x.read(1), Given.NOT_NOW);
        }
    }

    private static void separation() {
        RoundnessInstrument x = new RoundnessInstrument();
        x.setSteps(2);
        for (int i = 0; i < 48; i++) {
            x.read(i == 5 ? 7 : i == 24 + 5 ? 2 : i == 24 + 17 ? -4 : 0);
        }
        // S(5) = 9, S(17) = -4; Q(5) = 2 * 7 - 9 + 2 * -4 + 4, Q(17) = 0 + 4 + 2 * 2 - 9.
        Doc.describes("Separation, for a complete measurement: S(k) is the sum of m(j, k) over all steps j");
        Check.same("spindle(5)", x.spindle(5), 4500000);
        Check.same("spindle(17)", x.spindle(17), -2000000);
        Check.same("spindle(6)", x.spindle(6), 0);
        Doc.describes("Q(k) is the sum of P * m(j, k + j * 24 / P) - S(k + j * 24 / P) over all steps j");
        Check.same("part(5)", x.part(5), 250000);
        Check.same("part(17)", x.part(17), -250000);
        Check.same("part(6)", x.part(6), 0);
        Doc.describes("The spindle profile is 1000000 * S(k) / P, the part profile 1000000 * Q(k) / (P * P)");
        for (int steps : Given.STEP_COUNTS) {
            x = Given.measured(steps, 0, 3, -1);
            int turn = 24 / steps;
            Check.same("spindle of " + steps, x.spindle(3), Math.floorDiv(-1000000, steps));
            Check.same("part of " + steps, x.part(3), Math.floorDiv(-1000000 * (steps - 1), steps * steps));
            Check.same("part elsewhere of " + steps, x.part((3 + turn) % 24), 1000000 / (steps * steps));
        }
    }

    private static void lobesThatAreLost() {
        for (int steps : Given.STEP_COUNTS) {
            RoundnessInstrument x = new RoundnessInstrument();
            x.setSteps(steps);
            x.addLobes(false, 12, 6, 0);
            x.addLobes(true, 0, 2, 0);
            for (int j = 0; j < steps; j++) {
                x.simulateStep();
            }
            boolean lost = 12 % steps == 0;
            Doc.describes("S contains the spindle q and those lobes of the part p whose number is a multiple of P");
            Check.same("spindle(0) with " + steps, x.spindle(0), lost ? 8000000 : 2000000);
            Check.same("spindle(1) with " + steps, x.spindle(1), lost ? -4000000 : 2000000);
            Doc.describes("the part profile lacks these lobes.)");
            Check.same("part(0) with " + steps, x.part(0), lost ? 0 : 6000000);
            Check.same("part(1) with " + steps, x.part(1), lost ? 0 : -6000000);
            Check.same("isBlind(12) with " + steps, x.isBlind(12), lost ? 1 : 0);
        }
    }

    private static void newObject() {
        Doc.says(1, "Creates an instrument without readings");
        RoundnessInstrument x = new RoundnessInstrument();
        Check.same("readings", x.progress(1), 0);
        Check.same("finished steps", x.progress(2), 0);
        Check.same("next position", x.progress(3), 0);
        for (int i = 0; i < 96; i++) {
            Check.same("reading " + i, x.reading(i / 24, i % 24), Given.NONE);
        }
        Check.same("remove one", x.removeReadings(1), Given.BAD);
        Check.same("remove none", x.removeReadings(0), 0);
        Check.same("setSteps", x.setSteps(4), 0);
    }

    private static void setSteps() {
        Doc.says(2, "Sets the number of steps and removes all readings");
        RoundnessInstrument x = numbered(12, 288);
        Check.same("the same number again", x.setSteps(12), 288);
        Check.same("no readings", x.progress(1), 0);
        Check.same("the first is gone", x.reading(0, 0), Given.NONE);
        Check.same("read again", x.read(5), 1);
        Doc.says(2, "`steps`: 2, 3, 4, 6, 8 or 12");
        x = new RoundnessInstrument();
        for (int steps = -12; steps <= 25; steps++) {
            boolean allowed = steps == 2 || steps == 3 || steps == 4 || steps == 6 || steps == 8 || steps == 12;
            Check.same("setSteps(" + steps + ")", x.setSteps(steps), allowed ? 0 : Given.BAD);
            Check.isTrue("P after setSteps(" + steps + ")", (x.progress(0) == steps) == allowed);
        }
        Doc.says(2, "Returns how many readings there were");
        Check.same("none", x.setSteps(2), 0);
        Check.same("one", numbered(2, 1).setSteps(12), 1);
        Check.same("23", numbered(3, 23).setSteps(3), 23);
        Check.same("all of 2 steps", numbered(2, 48).setSteps(8), 48);
        Doc.says(2, "BAD_VALUE");
        x = numbered(2, 48);
        for (int steps : new int[] {MIN, -2, 0, 1, 24, MAX}) {
            Check.same("setSteps(" + steps + ")", x.setSteps(steps), Given.BAD);
        }
        Check.same("readings stay", x.progress(1), 48);
        Check.same("steps stay", x.progress(0), 2);
        Check.same("the first stays", x.reading(1, 23), 123);
    }

    private static void read() {
        Doc.says(3, "Records the next reading");
        RoundnessInstrument x = numbered(4, 25);
        x.read(-9);
        Check.same("the next", x.reading(1, 1), -9);
        Check.same("the one before", x.reading(1, 0), 100);
        Check.same("the one behind", x.reading(1, 2), Given.NONE);
        Doc.says(3, "`value`: -10000 to 10000");
        Check.same("least", x.read(-10000), 27);
        Check.same("greatest", x.read(10000), 28);
        Check.same("least reading", x.reading(1, 2), -10000);
        Check.same("greatest reading", x.reading(1, 3), 10000);
        Doc.says(3, "Returns how many readings there are then");
        Check.same("the first", new RoundnessInstrument().read(0), 1);
        Check.same("the last of a step", numbered(4, 23).read(0), 24);
        Check.same("the first of the next step", numbered(4, 24).read(0), 25);
        Check.same("the last", numbered(12, 287).read(0), 288);
        Doc.says(3, "BAD_VALUE");
        for (int value : new int[] {MIN, -10001, 10001, MAX}) {
            Check.same("read(" + value + ")", x.read(value), Given.BAD);
        }
        Check.same("nothing recorded", x.progress(1), 28);
        Doc.says(3, "NOT_NOW if the measurement is complete");
        for (int steps : Given.STEP_COUNTS) {
            x = numbered(steps, 24 * steps);
            Check.same("complete", x.read(0), Given.NOT_NOW);
            Check.same("complete, and a bad value", x.read(-10001), Given.BAD);
            x.removeReadings(1);
            Check.same("not complete", x.read(0), 24 * steps);
        }
    }

    private static void simulateStep() {
        Doc.says(4, "Records all readings of the next step by simulation");
        RoundnessInstrument x = numbered(4, 24);
        x.setTrue(false, 0, 50);
        x.setTrue(true, 1, 7);
        x.simulateStep();
        for (int k = 0; k < 24; k++) {
            Check.same("step 1 at " + k, x.reading(1, k), k == 6 ? 50 : k == 1 ? 7 : 0);
            Check.same("step 0 at " + k, x.reading(0, k), k);
        }
        Check.same("nothing of step 2", x.reading(2, 0), Given.NONE);
        Doc.says(4, "Returns how many readings there are then");
        x = new RoundnessInstrument();
        for (int j = 1; j <= 4; j++) {
            Check.same("step " + j, x.simulateStep(), 24 * j);
        }
        Doc.says(4, "NOT_NOW if the measurement is complete, or a step has been begun, but not finished");
        Check.same("complete", x.simulateStep(), Given.NOT_NOW);
        for (int readings = 0; readings <= 48; readings++) {
            x = numbered(2, readings);
            boolean now = readings == 0 || readings == 24;
            Check.same("after " + readings, x.simulateStep(), now ? readings + 24 : Given.NOT_NOW);
            Check.same("readings after " + readings, x.progress(1), now ? readings + 24 : readings);
        }
        x = numbered(2, 48);
        x.removeReadings(23);
        Check.same("25 are left", x.simulateStep(), Given.NOT_NOW);
        x.removeReadings(1);
        Check.same("24 are left", x.simulateStep(), 48);
    }

    private static void removeReadings() {
        Doc.says(5, "Removes the latest readings");
        RoundnessInstrument x = numbered(4, 30);
        x.removeReadings(8);
        Check.same("the first that is gone", x.reading(0, 22), Given.NONE);
        Check.same("the last that stays", x.reading(0, 21), 21);
        Check.same("no step is finished", x.progress(2), 0);
        Doc.says(5, "`n`: how many, 0 to the number of readings");
        Check.same("none", x.removeReadings(0), 22);
        Check.same("all", x.removeReadings(22), 0);
        Check.same("none of none", x.removeReadings(0), 0);
        Doc.says(5, "Returns how many are left");
        x = numbered(12, 288);
        Check.same("one of 288", x.removeReadings(1), 287);
        Check.same("24 of 287", x.removeReadings(24), 263);
        Check.same("263 of 263", x.removeReadings(263), 0);
        Doc.says(5, "BAD_VALUE");
        x = numbered(4, 30);
        for (int n : new int[] {MIN, -1, 31, 96, MAX}) {
            Check.same("removeReadings(" + n + ")", x.removeReadings(n), Given.BAD);
        }
        Check.same("all stay", x.progress(1), 30);
    }

    private static void progress() {
        Doc.says(6, "`what`: 0 for P, 1 for the number of readings, 2 for the number of finished steps, 3 for");
        int[][] due = {{0, 0, 0}, {1, 0, 1}, {23, 0, 23}, {24, 1, 0}, {25, 1, 1}, {47, 1, 23}, {48, 2, 0},
            {71, 2, 23}, {72, 3, Given.NONE}};
        for (int[] row : due) {
            RoundnessInstrument x = numbered(3, row[0]);
            Check.same("P", x.progress(0), 3);
            Check.same("readings", x.progress(1), row[0]);
            Check.same("finished steps of " + row[0], x.progress(2), row[1]);
            Check.same("next position of " + row[0], x.progress(3), row[2]);
        }
        Doc.says(6, "Returns the number");
        Check.same("finished steps of a complete measurement", numbered(12, 288).progress(2), 12);
        Check.same("readings of a complete measurement", numbered(12, 288).progress(1), 288);
        RoundnessInstrument x = numbered(2, 48);
        x.removeReadings(1);
        Check.same("next position, one removed", x.progress(3), 23);
        Doc.says(6, "BAD_VALUE");
        for (int what : new int[] {MIN, -1, 4, MAX}) {
            Check.same("progress(" + what + ")", x.progress(what), Given.BAD);
        }
    }

    private static void reading() {
        Doc.says(7, "`step`: 0 to P - 1");
        for (int steps : Given.STEP_COUNTS) {
            RoundnessInstrument x = numbered(steps, 24 * steps);
            Check.same("first step of " + steps, x.reading(0, 0), 0);
            Check.same("last step of " + steps, x.reading(steps - 1, 23), 100 * steps - 77);
            Check.same("step P of " + steps, x.reading(steps, 0), Given.BAD);
            Check.same("step -1 of " + steps, x.reading(-1, 23), Given.BAD);
        }
        Doc.says(7, "`position`: 0 to 23");
        RoundnessInstrument x = numbered(4, 30);
        Check.same("first", x.reading(0, 0), 0);
        Check.same("last", x.reading(0, 23), 23);
        Check.same("before the first", x.reading(1, -1), Given.BAD);
        Check.same("behind the last", x.reading(0, 24), Given.BAD);
        Doc.says(7, "Returns the reading");
        Check.same("the latest", x.reading(1, 5), 105);
        Doc.says(7, "BAD_VALUE");
        Check.same("step MIN", x.reading(MIN, 0), Given.BAD);
        Check.same("step MAX", x.reading(MAX, 0), Given.BAD);
        Check.same("position MIN", x.reading(0, MIN), Given.BAD);
        Check.same("position MAX", x.reading(0, MAX), Given.BAD);
        Doc.says(7, "NONE if it has not been recorded");
        Check.same("the next", x.reading(1, 6), Given.NONE);
        Check.same("the last of all", x.reading(3, 23), Given.NONE);
        Check.same("not recorded, no such position", x.reading(3, 24), Given.BAD);
        x.removeReadings(1);
        Check.same("removed", x.reading(1, 5), Given.NONE);
    }

    private static void despike() {
        Doc.says(8, "Replaces readings of a step that are spikes");
        RoundnessInstrument x = Given.measured(3, 1, 4, 60);
        Check.same("step 0", x.despike(0, 0), 0);
        Check.same("step 1", x.despike(1, 40), 1);
        Check.same("step 1, replaced", x.reading(1, 4), 0);
        Doc.says(8, "All readings of the step are compared as they are before the call");
        int[] values = {0, 0, 0, 0, 100, 300, 100, 0, 0, 0, 0, 0, 0, 0, 0, 0, 0, 0, 0, 0, 0, 0, 0, 0};
        x = new RoundnessInstrument();
        for (int value : values) {
            x.read(value);
        }
        // Twice the differences: 100 at 3 and 7, 100 at 4 and 6, 400 at 5.
        Check.same("just as great as twice the limit", x.despike(0, 200), 0);
        Check.same("greater than twice the limit", x.despike(0, 199), 1);
        Check.same("replaced", x.reading(0, 5), 100);
        x = new RoundnessInstrument();
        for (int value : values) {
            x.read(value);
        }
        Check.same("five spikes", x.despike(0, 49), 5);
        Doc.says(8, "Each spike is replaced by ((reading before it) + (reading after it)) / 2");
        int[] due = {0, 0, 0, 50, 150, 100, 150, 50, 0, 0};
        for (int k = 0; k < due.length; k++) {
            Check.same("reading " + k, x.reading(0, k), due[k]);
        }
        for (int k : new int[] {0, 23}) {
            x = Given.measured(2, 1, k, -9);
            Check.same("three spikes about " + k, x.despike(1, 4), 3);
            Check.same("before " + k, x.reading(1, (k + 23) % 24), -5);
            Check.same("at " + k, x.reading(1, k), 0);
            Check.same("behind " + k, x.reading(1, (k + 1) % 24), -5);
            Check.same("far from " + k, x.reading(1, 11), 0);
        }
    }

    private static void despikeErrors() {
        Doc.says(8, "`step`: a finished step");
        RoundnessInstrument x = numbered(4, 72);
        for (int step = -1; step <= 5; step++) {
            boolean finished = step >= 0 && step <= 2;
            Check.same("step " + step, x.despike(step, 20000), finished ? 0 : Given.BAD);
        }
        Check.same("step P", numbered(2, 48).despike(2, 0), Given.BAD);
        Check.same("step P - 1", numbered(2, 48).despike(1, 20000), 0);
        Doc.says(8, "`limit`: 0 to 20000");
        Check.same("limit -1", x.despike(0, -1), Given.BAD);
        Check.same("limit 20001", x.despike(0, 20001), Given.BAD);
        Check.same("limit MIN", x.despike(0, MIN), Given.BAD);
        Check.same("limit MAX", x.despike(0, MAX), Given.BAD);
        Check.same("limit 20000", x.despike(0, 20000), 0);
        Check.same("limit 0", x.despike(0, 0), 2);
        Doc.says(8, "Returns how many readings are replaced");
        Check.same("none", Given.measured(2, 0, 5, 100).despike(0, 100), 0);
        Check.same("one", Given.measured(2, 0, 5, 100).despike(0, 99), 1);
        Check.same("three", Given.measured(2, 0, 5, 100).despike(0, 49), 3);
        Doc.says(8, "BAD_VALUE, also if the step is not finished");
        x = numbered(4, 24 + 23);
        Check.same("one reading is missing", x.despike(1, 20000), Given.BAD);
        Check.same("not begun", x.despike(2, 20000), Given.BAD);
        x.read(123);
        Check.same("finished", x.despike(1, 20000), 0);
        x.removeReadings(1);
        Check.same("not finished any more", x.despike(1, 20000), Given.BAD);
        Check.same("step MIN", x.despike(MIN, 0), Given.BAD);
        Check.same("step MAX", x.despike(MAX, 0), Given.BAD);
    }

    private static void partAndSpindle() {
        RoundnessInstrument x = Given.measured(2, 0, 23, 8);
        RoundnessInstrument y = Given.measured(2, 0, 0, 8);
        Doc.says(9, "`position`: 0 to 23");
        Check.same("part(0)", y.part(0), 2000000);
        Check.same("part(23)", x.part(23), 2000000);
        Doc.says(9, "Returns the value of the part profile");
        Check.same("part(12)", y.part(12), -2000000);
        Doc.says(9, "NO_VALUE if position is out of range or the measurement is not complete");
        for (int position : new int[] {MIN, -1, 24, MAX}) {
            Check.same("part(" + position + ")", x.part(position), Given.NO_VALUE);
        }
        Check.same("part, one reading is missing", numbered(2, 47).part(0), Given.NO_VALUE);
        Check.same("part, a step is missing", numbered(2, 24).part(23), Given.NO_VALUE);
        Check.same("part of nothing", new RoundnessInstrument().part(24), Given.NO_VALUE);
        Doc.says(10, "`position`: 0 to 23");
        Check.same("spindle(0)", y.spindle(0), 4000000);
        Check.same("spindle(23)", x.spindle(23), 4000000);
        Doc.says(10, "Returns the value of the spindle profile");
        Check.same("spindle(12)", y.spindle(12), 0);
        Doc.says(10, "NO_VALUE if position is out of range or the measurement is not complete");
        for (int position : new int[] {MIN, -1, 24, MAX}) {
            Check.same("spindle(" + position + ")", x.spindle(position), Given.NO_VALUE);
        }
        Check.same("spindle, one reading is missing", numbered(2, 47).spindle(0), Given.NO_VALUE);
        Check.same("spindle, a step is missing", numbered(2, 24).spindle(23), Given.NO_VALUE);
        Check.same("spindle of nothing", new RoundnessInstrument().spindle(24), Given.NO_VALUE);
    }

    private static void isBlind() {
        Doc.says(11, "Tells whether the separation is blind to a number of lobes");
        RoundnessInstrument x = new RoundnessInstrument();
        Check.same("of a new object", x.isBlind(4), 1);
        Doc.says(11, "Returns 1 if lobes is a multiple of P, otherwise 0");
        for (int steps : Given.STEP_COUNTS) {
            x.setSteps(steps);
            for (int lobes = 1; lobes <= 12; lobes++) {
                int times = lobes / steps;
                Check.same(lobes + " with " + steps, x.isBlind(lobes), times * steps == lobes ? 1 : 0);
            }
        }
        Doc.says(11, "`lobes`: 1 to 12");
        x.setSteps(3);
        Check.same("isBlind(1)", x.isBlind(1), 0);
        Check.same("isBlind(12)", x.isBlind(12), 1);
        Doc.says(11, "BAD_VALUE");
        for (int lobes : new int[] {MIN, -3, -1, 0, 13, 15, MAX}) {
            Check.same("isBlind(" + lobes + ")", x.isBlind(lobes), Given.BAD);
        }
    }

    private static void residual() {
        Doc.says(12, "minus the part profile at k - j * 24 / P, minus the spindle profile at k");
        // Only one reading is not 0; its own difference is the greatest one.
        for (int steps : Given.STEP_COUNTS) {
            long due = 9000000 - Math.floorDiv(9000000 * (steps - 1), steps * steps) - 9000000 / steps;
            for (int step = 0; step < steps; step += steps - 1) {
                for (int k : new int[] {0, 1, 23}) {
                    String which = "of step " + step + " of " + steps + " at " + k;
                    Check.same(which, Given.measured(steps, step, k, 9).residual(), due);
                }
            }
        }
        Doc.says(12, "Returns this value");
        Check.same("the greatest difference is below 0", Given.measured(3, 0, 0, -1).residual(), 444443);
        Check.same("it is rounded for part and spindle", Given.measured(3, 0, 0, 1).residual(), 444445);
        Check.same("below 0", Given.measured(2, 1, 20, -9).residual(), 2250000);
        Check.same("all 0", Given.measured(2, 1, 20, 0).residual(), 0);
        RoundnessInstrument x = new RoundnessInstrument();
        x.addLobes(false, 3, 77, 2);
        x.addLobes(true, 5, 88, 3);
        for (int j = 0; j < 4; j++) {
            Check.same("after " + j + " steps", x.residual(), Given.NO_VALUE);
            x.simulateStep();
        }
        Check.isTrue("exact readings", x.residual() >= 0 && x.residual() <= 2);
        Doc.says(12, "NO_VALUE if the measurement is not complete");
        Check.same("one reading is missing", numbered(2, 47).residual(), Given.NO_VALUE);
        Check.same("a step is missing", numbered(2, 24).residual(), Given.NO_VALUE);
        Check.same("of nothing", new RoundnessInstrument().residual(), Given.NO_VALUE);
    }
}
