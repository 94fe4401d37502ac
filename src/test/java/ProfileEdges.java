/** Promises 13 to 20 and what the description says about the present profile and the V-block, by sentences. */
final class ProfileEdges {
    private static final int MIN = Integer.MIN_VALUE;
    private static final int MAX = Integer.MAX_VALUE;

    private ProfileEdges() {
    }

    static void run() {
        load();
        loadErrors();
        profile();
        rotate();
        removeEccentricity();
        keepLobes();
        keepLobesErrors();
        subtract();
        subtractErrors();
        subtractTooMuch();
        vBlockDescription();
        vBlock();
        vBlockTooGreat();
        noOtherLimit();
        isBlindInVBlock();
    }

    private static void load() {
        RoundnessInstrument x = Given.measured(2, 1, 4, -7);
        x.setTrue(false, 0, -5000);
        x.setTrue(true, 23, 5000);
        Doc.says(13, "Makes a profile the present one");
        x.load(4, 0);
        x.load(3, 0);
        Check.same("only the latest, 0", x.profile(0), -5000000000L);
        Check.same("only the latest, 23", x.profile(23), 0);
        Doc.says(13, "`source`: 0 for the readings of a step, times 1000000");
        x.load(0, 1);
        Check.same("readings of step 1", x.profile(4), -7000000);
        x.load(0, 0);
        Check.same("readings of step 0", x.profile(4), 0);
        Doc.says(13, "1 for the part profile, 2 for the spindle profile, 3 for the true part profile and 4 for the");
        x.load(1, 0);
        Check.same("part", x.profile(16), -1750000);
        x.load(2, 0);
        Check.same("spindle", x.profile(4), -3500000);
        x.load(3, 0);
        Check.same("true part", x.profile(0), -5000000000L);
        x.load(4, 0);
        Check.same("true spindle", x.profile(23), 5000000000L);
        Doc.says(13, "Returns 1");
        for (int source = 0; source <= 4; source++) {
            Check.same("source " + source, x.load(source, 1), 1);
            Check.same("source " + source + " again", x.load(source, 1), 1);
        }
        Doc.says(13, "not used otherwise");
        for (int source = 1; source <= 4; source++) {
            for (int step : new int[] {MIN, -1, 2, MAX}) {
                Check.same("step " + step + " of source " + source, x.load(source, step), 1);
            }
        }
    }

    private static void loadErrors() {
        RoundnessInstrument x = Given.measured(4, 0, 0, 9);
        Doc.says(13, "`step`: the step for source 0");
        Check.same("the first step", x.load(0, 0), 1);
        Check.same("the last step", x.load(0, 3), 1);
        Doc.says(13, "BAD_VALUE if source is not 0 to 4, or there is no such step");
        for (int source : new int[] {MIN, -1, 5, MAX}) {
            Check.same("source " + source, x.load(source, 0), Given.BAD);
        }
        for (int step : new int[] {MIN, -1, 4, MAX}) {
            Check.same("step " + step, x.load(0, step), Given.BAD);
        }
        Check.same("what was loaded can be undone", x.undo(), 1);
        Doc.says(13, "NOT_NOW if the step is not finished (source 0) or the measurement is not complete (sources 1");
        x.removeReadings(1);
        Check.same("a finished step", x.load(0, 2), 1);
        Check.same("one reading is missing", x.load(0, 3), Given.NOT_NOW);
        Check.same("part, one reading is missing", x.load(1, 0), Given.NOT_NOW);
        Check.same("spindle, one reading is missing", x.load(2, 0), Given.NOT_NOW);
        Check.same("true part", x.load(3, 0), 1);
        Check.same("true spindle", x.load(4, 0), 1);
        x.removeReadings(23);
        Check.same("not begun", x.load(0, 3), Given.NOT_NOW);
        Check.same("no such step", x.load(0, 4), Given.BAD);
        Check.same("of nothing", new RoundnessInstrument().load(0, 0), Given.NOT_NOW);
    }

    private static void profile() {
        RoundnessInstrument x = Given.spikes(0, 1, 23, -2);
        Doc.says(14, "`position`: 0 to 23");
        Check.same("first", x.profile(0), 1000000);
        Check.same("last", x.profile(23), -2000000);
        Doc.says(14, "Returns z at this position");
        Check.same("between", x.profile(12), 0);
        Doc.says(14, "NO_VALUE");
        for (int position : new int[] {MIN, -1, 24, MAX}) {
            Check.same("profile(" + position + ")", x.profile(position), Given.NO_VALUE);
        }
    }

    private static void rotate() {
        Doc.says(15, "Rotates the present profile: the new z(k) is the old z(k - by)");
        RoundnessInstrument x = Given.spikes(20, 5);
        x.rotate(7);
        Check.same("20 + 7 is 3", x.profile(3), 5000000);
        x.rotate(-7);
        Check.same("3 - 7 is 20", x.profile(20), 5000000);
        Doc.says(15, "`by`: -23 to 23");
        Check.same("rotate(23)", x.rotate(23), 1);
        Check.same("20 + 23 is 19", x.profile(19), 5000000);
        Check.same("rotate(-23)", x.rotate(-23), 1);
        Check.same("19 - 23 is 20", x.profile(20), 5000000);
        Doc.says(15, "Returns 1 if this changes the profile, otherwise 0");
        Check.same("rotate(0)", x.rotate(0), 0);
        Check.same("rotate(12)", x.rotate(12), 1);
        x = Given.twoLobes();
        Check.same("two lobes by 12", x.rotate(12), 0);
        Check.same("two lobes by -12", x.rotate(-12), 0);
        Check.same("two lobes by 6", x.rotate(6), 1);
        Check.same("zeros", new RoundnessInstrument().rotate(5), 0);
        Doc.says(15, "BAD_VALUE");
        for (int by : new int[] {MIN, -25, -24, 24, 25, MAX}) {
            Check.same("rotate(" + by + ")", x.rotate(by), Given.BAD);
        }
        Check.same("not rotated", x.profile(6), 500000000);
        Check.same("not remembered", x.undo(), 3);
    }

    private static void removeEccentricity() {
        Doc.says(16, "Subtracts the mean and the eccentricity from the present profile");
        RoundnessInstrument x = Given.spikes(0, 24);
        Check.same("one spike", x.removeEccentricity(), 1);
        // 24000000 at 0 has A(0) = 1000000, A(1) = 2000000 and B(1) = 0.
        Check.profile("without mean and eccentricity", x, 21000000, -2931852, -2732050, -2414214, -2000000, -1517638,
            -1000000, -482362, 0, 414214, 732050, 931852, 1000000, 931852, 732050, 414214, 0, -482362, -1000000,
            -1517638, -2000000, -2414214, -2732050, -2931852);
        x = Given.spikes(6, -24);
        x.removeEccentricity();
        Check.same("B(1) is subtracted, at 6", x.profile(6), -21000000);
        Check.same("B(1) is subtracted, at 18", x.profile(18), -1000000);
        Check.same("B(1) is subtracted, at 0", x.profile(0), 1000000);
        Doc.says(16, "Returns 1 if this changes the profile, otherwise 0");
        x = new RoundnessInstrument();
        Check.same("zeros", x.removeEccentricity(), 0);
        x.addLobes(false, 12, 7, 0);
        x.load(3, 0);
        Check.same("nothing to remove", x.removeEccentricity(), 0);
        x.setTrue(false, 3, 0);
        x.load(3, 0);
        Check.same("something to remove", x.removeEccentricity(), 1);
        Check.same("all are remembered", x.undo(), 4);
    }

    private static void keepLobes() {
        Doc.says(17, "Keeps only some harmonics of the present profile");
        RoundnessInstrument x = Given.spikes(0, 24);
        x.keepLobes(2, 3);
        long[] second = {1000000, 866025, 500000, 0, -500000, -866025};
        long[] third = {1000000, 707107, 0, -707107};
        for (int k = 0; k < 24; k++) {
            long two = k % 12 < 6 ? second[k % 6] : -second[k % 6];
            long three = k % 8 < 4 ? third[k % 4] : -third[k % 4];
            Check.same("lobes 2 and 3 at " + k, x.profile(k), 2 * two + 2 * three);
        }
        x = Given.fraction(1);
        x.keepLobes(0, 12);
        Check.profile("each term is rounded down", x, -6, 83326, -5, -3, -5, -7, -1, -5, -3, -2, -5, -3, 0, 0, -5, -2,
            -5, -5, -1, -4, -3, -4, -5, 0);
        Doc.says(17, "`first`: 0 to last");
        x = Given.spikes(0, 24);
        Check.same("keepLobes(0, 12)", x.keepLobes(0, 12), 0);
        Check.same("keepLobes(0, 0)", x.keepLobes(0, 0), 1);
        Check.profile("the mean", x, 1000000);
        Doc.says(17, "`last`: first to 12");
        x = Given.spikes(0, 24);
        Check.same("keepLobes(12, 12)", x.keepLobes(12, 12), 1);
        Check.profile("twelve lobes", x, 1000000, -1000000);
        Doc.says(17, "Returns 1 if this changes the profile, otherwise 0");
        Check.same("keepLobes(12, 12) again", x.keepLobes(12, 12), 0);
        Check.same("keepLobes(3, 12)", x.keepLobes(3, 12), 0);
        Check.same("keepLobes(0, 11)", x.keepLobes(0, 11), 1);
        Check.same("zeros", x.keepLobes(5, 5), 0);
    }

    private static void keepLobesErrors() {
        Doc.says(17, "BAD_VALUE");
        RoundnessInstrument x = Given.spikes(0, 24);
        int[][] pairs = {{-1, 3}, {-1, -1}, {1, 0}, {12, 11}, {0, 13}, {13, 13}, {MIN, 5}, {5, MAX}, {MAX, MIN},
            {5, MIN}, {MIN, MAX}};
        for (int[] pair : pairs) {
            Check.same("keepLobes(" + pair[0] + ", " + pair[1] + ")", x.keepLobes(pair[0], pair[1]), Given.BAD);
        }
        Check.same("not remembered", x.undo(), 0);
    }

    private static void subtract() {
        Doc.says(18, "Subtracts a profile from the present one");
        RoundnessInstrument x = Given.measured(2, 1, 4, -8);
        x.setTrue(false, 4, 30);
        x.setTrue(true, 4, 500);
        x.load(3, 0);
        Doc.says(18, "`source`: as for load()");
        x.subtract(0, 1);
        Check.same("less the readings", x.profile(4), 38000000);
        x.subtract(1, 0);
        Check.same("less the part", x.profile(16), 2000000);
        Check.same("less the part, at 4", x.profile(4), 36000000);
        x.subtract(2, 0);
        Check.same("less the spindle", x.profile(4), 40000000);
        x.subtract(3, 0);
        Check.same("less the true part", x.profile(4), 10000000);
        x.subtract(4, 0);
        Check.same("less the true spindle", x.profile(4), -490000000);
        Doc.says(18, "`step`: as for load()");
        for (int source = 1; source <= 4; source++) {
            for (int step : new int[] {MIN, -1, 2, MAX}) {
                Check.same("step " + step + " of source " + source, x.subtract(source, step), 1);
            }
        }
        Doc.says(18, "Returns 1 if this changes the profile, otherwise 0");
        Check.same("readings that are 0", x.subtract(0, 0), 0);
        Check.same("readings that are not", x.subtract(0, 1), 1);
        Check.same("both can be undone", x.undo(), 19);
    }

    private static void subtractErrors() {
        Doc.says(18, "errors as for load(), in the same order");
        RoundnessInstrument x = Given.measured(4, 0, 0, 9);
        for (int source : new int[] {MIN, -1, 5, MAX}) {
            Check.same("source " + source, x.subtract(source, 0), Given.BAD);
        }
        for (int step : new int[] {MIN, -1, 4, MAX}) {
            Check.same("step " + step, x.subtract(0, step), Given.BAD);
        }
        Check.same("the last step", x.subtract(0, 3), 0);
        x.removeReadings(1);
        Check.same("a finished step", x.subtract(0, 2), 0);
        Check.same("one reading is missing", x.subtract(0, 3), Given.NOT_NOW);
        Check.same("part, one reading is missing", x.subtract(1, 0), Given.NOT_NOW);
        Check.same("spindle, one reading is missing", x.subtract(2, 0), Given.NOT_NOW);
        Check.same("no such step", x.subtract(0, 4), Given.BAD);
        Check.same("true part", x.subtract(3, 0), 0);
        Check.same("true spindle", x.subtract(4, 0), 0);
        Check.same("four are remembered", x.undo(), 3);
    }

    private static void subtractTooMuch() {
        Doc.says(18, "then BAD_VALUE if the absolute value of some new z(k) would be above 40000000000");
        for (int sign = -1; sign <= 1; sign += 2) {
            for (int position : new int[] {0, 11, 23}) {
                RoundnessInstrument x = Given.measured(2, 0, position, 10000 * sign);
                for (int i = 1; i <= 4; i++) {
                    Check.same("subtract " + i, x.subtract(0, 0), 1);
                }
                Check.same("just 40000000000", x.profile(position), -sign * 40000000000L);
                x.setTrue(true, position, sign);
                Check.same("40001000000 at " + position, x.subtract(4, 0), Given.BAD);
                Check.same("it stays", x.profile(position), -sign * 40000000000L);
                x.setTrue(true, position, -sign);
                Check.same("39999000000 at " + position, x.subtract(4, 0), 1);
                Check.same("one less", x.profile(position), -sign * 39999000000L);
                Check.same("five are remembered", x.undo(), 4);
            }
        }
        justAbove();
    }

    /** The smallest step above the limit: 39999666667 + 333334 = 40000000001. */
    private static void justAbove() {
        RoundnessInstrument x = Given.measured(3, 0, 0, 1);
        x.setTrue(false, 0, -5000);
        for (int i = 1; i <= 8; i++) {
            x.subtract(3, 0);
        }
        x.subtract(2, 0);
        Check.same("below the limit", x.profile(0), 39999666667L);
        x.setSteps(3);
        x.read(-1);
        for (int i = 1; i < 72; i++) {
            x.read(0);
        }
        Check.same("40000000001", x.subtract(2, 0), Given.BAD);
        Check.same("it stays", x.profile(0), 39999666667L);
    }

    private static void vBlockDescription() {
        Doc.describes("A part that lies in a V-block shows a changed profile");
        RoundnessInstrument x = Given.spikes(0, 2);
        Check.same("changed", x.vBlock(3), 1);
        Doc.describes("With an angle a (1 to 5, in positions), the profile in the V-block is z(k) + (z(k + 12 - a)");
        long[] up = {1035275, 1154701, 1414213, 2000000, 3863703};
        long[] down = {-1035276, -1154702, -1414214, -2000000, -3863704};
        for (int angle = 1; angle <= 5; angle++) {
            for (int sign = -1; sign <= 1; sign += 2) {
                x = Given.spikes(0, 2 * sign);
                x.vBlock(angle);
                long flank = sign > 0 ? up[angle - 1] : down[angle - 1];
                for (int k = 0; k < 24; k++) {
                    boolean onFlank = k == 12 - angle || k == 12 + angle;
                    long due = k == 0 ? sign * 2000000L : onFlank ? flank : 0;
                    Check.same("angle " + angle + " at " + k, x.profile(k), due);
                }
            }
        }
        x = Given.spikes(8, 3, 16, 4);
        x.vBlock(4);
        Check.same("both flanks are added", x.profile(0), 7000000);
        Check.same("one flank and itself", x.profile(8), 7000000);
    }

    private static void vBlock() {
        Doc.says(19, "Replaces the present profile by what it would be in a V-block");
        RoundnessInstrument x = Given.spikes(23, 6);
        x.vBlock(4);
        x.vBlock(4);
        Check.same("twice at 23", x.profile(23), 6000000 + 12000000);
        Check.same("twice at 7", x.profile(7), 6000000 + 12000000);
        Doc.says(19, "`angle`: a, 1 to 5");
        Check.same("vBlock(1)", x.vBlock(1), 1);
        Check.same("vBlock(5)", x.vBlock(5), 1);
        Doc.says(19, "Returns 1 if this changes the profile, otherwise 0");
        x = new RoundnessInstrument();
        for (int angle = 1; angle <= 5; angle++) {
            Check.same("zeros at angle " + angle, x.vBlock(angle), 0);
        }
        Given.loadSpikes(x, 0, 1, 6, -1, 12, 1, 18, -1);
        Check.same("flanks that cancel", x.vBlock(3), 0);
        Check.same("flanks that add", x.vBlock(1), 1);
        Check.same("unchanged ones are remembered too", x.undo(), 7);
        Doc.says(19, "BAD_VALUE, also if the absolute value of some new z(k) would be above 40000000000");
        for (int angle : new int[] {MIN, -1, 0, 6, 12, MAX}) {
            Check.same("vBlock(" + angle + ")", x.vBlock(angle), Given.BAD);
        }
        Check.same("errors are not remembered", x.undo(), 6);
    }

    private static void vBlockTooGreat() {
        for (int sign = -1; sign <= 1; sign += 2) {
            RoundnessInstrument x = Given.measured(2, 0, 0, 10000 * sign);
            for (int i = 1; i <= 4; i++) {
                x.subtract(0, 0);
            }
            Check.same("just 40000000000", x.vBlock(4), 1);
            Check.same("a flank", x.profile(8), -sign * 40000000000L);
            Check.same("80000000000", x.vBlock(4), Given.BAD);
            Check.same("it stays", x.profile(8), -sign * 40000000000L);
            x.undo();
            Check.same("more than 40000000000", x.vBlock(5), Given.BAD);
            Check.same("a flank of about 20705000000", x.vBlock(1), 1);
            Check.same("all are remembered", x.undo(), 4);
            Check.same("the error is not", x.redo(), 0);
            aMillionthTooGreat(sign);
        }
    }

    /** One flank at angle 4 is z(8) + z(16) at 0, which is brought to the limit and one reading's unit above it. */
    private static void aMillionthTooGreat(int sign) {
        RoundnessInstrument x = new RoundnessInstrument();
        x.setTrue(false, 8, -5000 * sign);
        x.setTrue(false, 16, -5000 * sign);
        for (int i = 1; i <= 4; i++) {
            x.subtract(3, 0);
        }
        Check.same("just at the limit", x.vBlock(4), 1);
        Check.same("at 0", x.profile(0), sign * 40000000000L);
        x.undo();
        x.setTrue(false, 8, -sign);
        x.setTrue(false, 16, 0);
        x.subtract(3, 0);
        Check.same("40001000000", x.vBlock(4), Given.BAD);
        Check.same("it stays", x.profile(8), sign * 20001000000L);
    }

    /** Only subtract() and vBlock() refuse values above 40000000000; other calls may bring greater ones about. */
    private static void noOtherLimit() {
        RoundnessInstrument x = new RoundnessInstrument();
        for (int k = 0; k < 24; k++) {
            x.setTrue(false, k, k == 0 ? -5000 : 5000);
        }
        for (int i = 1; i <= 8; i++) {
            x.subtract(3, 0);
        }
        Check.about("Promise 16: has no limit");
        Check.same("removeEccentricity()", x.removeEccentricity(), 1);
        Check.same("z(0)", x.profile(0), 70000000001L);
        Check.same("z(1)", x.profile(1), -9772839999L);
        Doc.says(18, "then BAD_VALUE if the absolute value of some new z(k) would be above 40000000000");
        Check.same("subtract zeros", x.subtract(4, 0), Given.BAD);
        Check.same("subtract what makes it even greater", x.subtract(3, 0), Given.BAD);
        Doc.says(19, "BAD_VALUE, also if the absolute value of some new z(k) would be above 40000000000");
        Check.same("vBlock()", x.vBlock(3), Given.BAD);
        Check.same("neither is remembered", x.undo(), 8);
        Check.same("brought back", x.redo(), 0);
        Check.about("Promises 15, 17, 33 and 35: have no limit");
        Check.same("rotate()", x.rotate(5), 1);
        Check.same("storeTrace()", x.storeTrace(0), 0);
        Check.same("keepLobes()", x.keepLobes(0, 12), 1);
        Check.same("recall()", x.recall(0), 1);
        Check.same("recalled", x.profile(5), 70000000001L);
        for (int k = 0; k < 24; k++) {
            x.setTrue(false, k, k < 12 ? -5000 : 5000);
        }
        x.load(4, 0);
        for (int i = 1; i <= 8; i++) {
            x.subtract(3, 0);
        }
        Check.same("keepLobes(1, 1) of a great profile", x.keepLobes(1, 1), 1);
        Check.same("z(5)", x.profile(5), 50638368521L);
        Check.same("z(17)", x.profile(17), -50638368522L);
    }

    private static void isBlindInVBlock() {
        Doc.describes("A V-block with this angle is blind to a number of lobes h if c(a) + c(h * a) is 0 and h is");
        int[][] due = {
            {1, 0, 0, 0, 0, 0, 0, 0, 0, 0, 0, 0},
            {1, 0, 0, 0, 0, 0, 0, 0, 0, 0, 1, 0},
            {1, 0, 0, 0, 0, 0, 1, 0, 1, 0, 0, 0},
            {1, 1, 0, 1, 1, 0, 1, 1, 0, 1, 1, 0},
            {1, 0, 0, 0, 0, 0, 0, 0, 0, 0, 0, 0}};
        RoundnessInstrument x = new RoundnessInstrument();
        Doc.says(20, "Returns 1 if a V-block with this angle is blind to this number of lobes, otherwise 0");
        for (int angle = 1; angle <= 5; angle++) {
            for (int lobes = 1; lobes <= 12; lobes++) {
                Check.same("angle " + angle + ", lobes " + lobes, x.isBlindInVBlock(angle, lobes),
                        due[angle - 1][lobes - 1]);
            }
        }
        Doc.says(20, "`angle`: a, 1 to 5");
        Check.same("angle 1", x.isBlindInVBlock(1, 1), 1);
        Check.same("angle 5", x.isBlindInVBlock(5, 1), 1);
        Doc.says(20, "`lobes`: 1 to 12");
        Check.same("lobes 1", x.isBlindInVBlock(2, 1), 1);
        Check.same("lobes 12", x.isBlindInVBlock(2, 12), 0);
        Doc.says(20, "BAD_VALUE");
        for (int wrong : new int[] {MIN, -1, 0, MAX}) {
            Check.same("angle " + wrong, x.isBlindInVBlock(wrong, 1), Given.BAD);
            Check.same("lobes " + wrong, x.isBlindInVBlock(1, wrong), Given.BAD);
        }
        Check.same("angle 6", x.isBlindInVBlock(6, 1), Given.BAD);
        Check.same("lobes 13", x.isBlindInVBlock(1, 13), Given.BAD);
        Check.same("lobes 25", x.isBlindInVBlock(1, 25), Given.BAD);
    }
}
