/** Promises 13 to 25: the present profile, undo and redo, harmonics. */
public final class ProfileTest {
    public static void main(String[] args) {
        load();
        loadErrors();
        profile();
        rotate();
        removeEccentricity();
        keepLobes();
        keepLobesRoundsDown();
        subtract();
        subtractErrors();
        vBlock();
        vBlockTooGreat();
        isBlindInVBlock();
        undo();
        undoRemembersTwenty();
        redoIsForgotten();
        everyChangeCanBeUndone();
        harmonic();
        harmonicRoundsDown();
        strength();
        dominant();
        Check.finish();
    }

    private static void load() {
        RoundnessInstrument x = Given.measured(2, 1, 4, -7);
        x.setTrue(false, 1, 5000);
        x.setTrue(true, 2, -5000);
        Check.same("load readings", x.load(0, 1), 1);
        Check.same("readings", x.profile(4), -7000000L);
        Check.same("load the same again", x.load(0, 1), 1);
        Check.same("load other readings", x.load(0, 0), 1);
        Check.profile("other readings", x, 0);
        Check.same("load part", x.load(1, 0), 1);
        Check.same("part", x.profile(16), -1750000L);
        Check.same("load spindle", x.load(2, 0), 1);
        Check.same("spindle", x.profile(4), -3500000L);
        Check.same("load true part", x.load(3, 0), 1);
        Check.same("true part", x.profile(1), 5000000000L);
        Check.same("load true spindle", x.load(4, 0), 1);
        Check.same("true spindle", x.profile(2), -5000000000L);
        for (int source = 1; source <= 4; source++) {
            Check.same("step -1 for source " + source, x.load(source, -1), 1);
            Check.same("step MAX for source " + source, x.load(source, Integer.MAX_VALUE), 1);
        }
        x.setTrue(true, 2, 0);
        Check.same("the profile is a copy", x.profile(2), -5000000000L);
    }

    private static void loadErrors() {
        RoundnessInstrument x = new RoundnessInstrument();
        Check.same("source -1", x.load(-1, 0), Given.BAD);
        Check.same("source 5", x.load(5, 0), Given.BAD);
        Check.same("step -1", x.load(0, -1), Given.BAD);
        Check.same("step P", x.load(0, 4), Given.BAD);
        Check.same("step not recorded", x.load(0, 0), Given.NOT_NOW);
        Check.same("last step not recorded", x.load(0, 3), Given.NOT_NOW);
        Check.same("part of nothing", x.load(1, 0), Given.NOT_NOW);
        Check.same("spindle of nothing", x.load(2, 0), Given.NOT_NOW);
        x.simulateStep();
        x.read(1);
        Check.same("step finished", x.load(0, 0), 1);
        Check.same("step begun", x.load(0, 1), Given.NOT_NOW);
        Check.same("part, not complete", x.load(1, 0), Given.NOT_NOW);
        Check.same("spindle, not complete", x.load(2, 0), Given.NOT_NOW);
        Check.same("errors are not remembered", x.undo(), 0);
        Check.same("source MIN", x.load(Integer.MIN_VALUE, 0), Given.BAD);
        Check.same("errors leave what can be redone", x.redo(), 0);
    }

    private static void profile() {
        RoundnessInstrument x = Given.spikes(0, 1, 23, -2);
        Check.same("profile(0)", x.profile(0), 1000000);
        Check.same("profile(23)", x.profile(23), -2000000);
        Check.same("profile(1)", x.profile(1), 0);
        Check.same("profile(-1)", x.profile(-1), Given.NO_VALUE);
        Check.same("profile(24)", x.profile(24), Given.NO_VALUE);
        Check.same("profile(MIN)", x.profile(Integer.MIN_VALUE), Given.NO_VALUE);
    }

    private static void rotate() {
        for (int by = -23; by <= 23; by++) {
            RoundnessInstrument x = Given.spikes(3, 5, 4, 6);
            Check.same("rotate(" + by + ")", x.rotate(by), by == 0 ? 0 : 1);
            Check.same("rotated by " + by, x.profile(Math.floorMod(3 + by, 24)), 5000000);
            Check.same("neighbour rotated by " + by, x.profile(Math.floorMod(4 + by, 24)), 6000000);
        }
        RoundnessInstrument x = Given.twoLobes();
        Check.same("a symmetric profile", x.rotate(12), 0);
        Check.same("rotate(0)", x.rotate(0), 0);
        Check.same("rotate(-24)", x.rotate(-24), Given.BAD);
        Check.same("rotate(24)", x.rotate(24), Given.BAD);
        Check.same("rotate(MIN)", x.rotate(Integer.MIN_VALUE), Given.BAD);
        Check.same("unchanged profiles are remembered", x.undo(), 2);
    }

    private static void removeEccentricity() {
        RoundnessInstrument x = new RoundnessInstrument();
        x.addLobes(false, 0, 5, 0);
        x.load(3, 0);
        Check.same("a mean", x.removeEccentricity(), 1);
        Check.profile("no mean", x, 0);
        Check.same("nothing to remove", x.removeEccentricity(), 0);
        Check.same("it is remembered", x.undo(), 2);
        x = Given.spikes(3, 900, 9, -400, 14, 250);
        Check.same("three spikes", x.removeEccentricity(), 1);
        Check.same("z(0)", x.profile(0), -89811070L);
        Check.same("z(1)", x.profile(1), -92745159L);
        Check.same("z(2)", x.profile(2), -91488413L);
        Check.same("z(3)", x.profile(3), 813873410L);
        long[] due = {-10179, 72918, -10178, -9485, -8381, -6943, -5269, -3471};
        x = Given.fraction(1);
        x.removeEccentricity();
        for (int k = 0; k < due.length; k++) {
            Check.same("fraction at " + k, x.profile(k), due[k]);
        }
        long[] dueNegative = {10181, -72916, 10182, 9488, 8385, 6946, 5271, 3474};
        x = Given.fraction(-1);
        x.removeEccentricity();
        for (int k = 0; k < dueNegative.length; k++) {
            Check.same("negative fraction at " + k, x.profile(k), dueNegative[k]);
        }
    }

    private static void keepLobes() {
        RoundnessInstrument x = Given.spikes(3, 900, 9, -400, 14, 250);
        Check.same("keepLobes(2, 4)", x.keepLobes(2, 4), 1);
        Check.same("z(0)", x.profile(0), -118269927L);
        Check.same("z(1)", x.profile(1), 13727419L);
        Check.same("z(2)", x.profile(2), 164948801L);
        Check.same("z(3)", x.profile(3), 238727504L);
        x = Given.spikes(0, 24);
        Check.same("keepLobes(12, 12)", x.keepLobes(12, 12), 1);
        Check.profile("alternating", x, 1000000, -1000000);
        Check.same("keepLobes(12, 12) again", x.keepLobes(12, 12), 0);
        Check.same("keepLobes(0, 11)", x.keepLobes(0, 11), 1);
        Check.profile("nothing left", x, 0);
        Check.same("keepLobes(1, 0)", x.keepLobes(1, 0), Given.BAD);
        Check.same("keepLobes(-1, 3)", x.keepLobes(-1, 3), Given.BAD);
        Check.same("keepLobes(3, 13)", x.keepLobes(3, 13), Given.BAD);
        Check.same("keepLobes(13, 13)", x.keepLobes(13, 13), Given.BAD);
        Check.same("keepLobes(MIN, MAX)", x.keepLobes(Integer.MIN_VALUE, Integer.MAX_VALUE), Given.BAD);
        Check.same("errors are not remembered", x.undo(), 3);
    }

    private static void keepLobesRoundsDown() {
        RoundnessInstrument x = Given.fraction(1);
        x.keepLobes(0, 1);
        long[] due = {10179, 10415, 10178, 9485, 8381, 6943, 5269, 3471};
        for (int k = 0; k < due.length; k++) {
            Check.same("lobes 0 and 1 at " + k, x.profile(k), due[k]);
        }
        x = Given.fraction(-1);
        x.keepLobes(0, 1);
        long[] dueNegative = {-10181, -10418, -10182, -9488, -8385, -6946, -5271, -3474};
        for (int k = 0; k < dueNegative.length; k++) {
            Check.same("negative lobes 0 and 1 at " + k, x.profile(k), dueNegative[k]);
        }
        x = Given.fraction(1);
        x.keepLobes(12, 12);
        Check.profile("lobes 12", x, -3473, 3473);
        x = Given.fraction(-1);
        x.keepLobes(0, 0);
        Check.profile("lobes 0", x, -3473);
    }

    private static void subtract() {
        RoundnessInstrument x = Given.measured(2, 1, 4, -7);
        x.setTrue(false, 1, 10);
        x.setTrue(true, 2, 20);
        Check.same("subtract readings", x.subtract(0, 1), 1);
        Check.same("less the readings", x.profile(4), 7000000);
        Check.same("subtract zeros", x.subtract(0, 0), 0);
        Check.same("subtract part", x.subtract(1, 99), 1);
        Check.same("less the part", x.profile(16), 1750000);
        Check.same("subtract spindle", x.subtract(2, -5), 1);
        Check.same("less the spindle", x.profile(4), 7000000 - 1750000 + 3500000);
        Check.same("subtract true part", x.subtract(3, 0), 1);
        Check.same("less the true part", x.profile(1), -10000000);
        Check.same("subtract true spindle", x.subtract(4, 0), 1);
        Check.same("less the true spindle", x.profile(2), -20000000);
        Check.same("all are remembered", x.undo(), 5);
    }

    private static void subtractErrors() {
        RoundnessInstrument x = new RoundnessInstrument();
        Check.same("source -1", x.subtract(-1, 0), Given.BAD);
        Check.same("source 5", x.subtract(5, 0), Given.BAD);
        Check.same("step -1", x.subtract(0, -1), Given.BAD);
        Check.same("step P", x.subtract(0, 4), Given.BAD);
        Check.same("step not recorded", x.subtract(0, 3), Given.NOT_NOW);
        Check.same("part of nothing", x.subtract(1, 0), Given.NOT_NOW);
        Check.same("spindle of nothing", x.subtract(2, 0), Given.NOT_NOW);
        x = Given.measured(2, 0, 0, 10000);
        for (int i = 1; i <= 4; i++) {
            Check.same("subtract " + i, x.subtract(0, 0), 1);
        }
        Check.same("the greatest profile", x.profile(0), -40000000000L);
        Check.same("too great", x.subtract(0, 0), Given.BAD);
        Check.same("it stays", x.profile(0), -40000000000L);
        Check.same("the error is not remembered", x.undo(), 3);
        Check.same("the error leaves what was undone", x.redo(), 0);
        x.setTrue(false, 5, 1);
        Check.same("other positions", x.subtract(3, 0), 1);
        x.setTrue(false, 0, 1);
        Check.same("slightly too great", x.subtract(3, 0), Given.BAD);
        subtractJustTooMuch();
        x = Given.measured(2, 0, 23, -10000);
        for (int i = 1; i <= 4; i++) {
            x.subtract(0, 0);
        }
        Check.same("the greatest positive profile", x.profile(23), 40000000000L);
        x.setTrue(true, 23, -1);
        Check.same("slightly too great, positive", x.subtract(4, 0), Given.BAD);
    }

    /** 333334 - 333333 is all that is too much. */
    private static void subtractJustTooMuch() {
        RoundnessInstrument x = Given.measured(3, 0, 0, 1);
        x.setTrue(false, 0, -5000);
        for (int i = 1; i <= 8; i++) {
            x.subtract(3, 0);
        }
        Check.same("the greatest profile", x.profile(0), 40000000000L);
        Check.same("less 333333", x.subtract(2, 0), 1);
        x.setSteps(3);
        x.read(-1);
        for (int i = 1; i < 72; i++) {
            x.read(0);
        }
        Check.same("too great by 1", x.subtract(2, 0), Given.BAD);
        Check.same("it stays", x.profile(0), 39999666667L);
    }

    private static void vBlock() {
        RoundnessInstrument x = Given.spikes(8, 6);
        Check.same("vBlock(4)", x.vBlock(4), 1);
        for (int k = 0; k < 24; k++) {
            Check.same("vBlock(4) at " + k, x.profile(k), k % 8 == 0 ? 6000000 : 0);
        }
        long[] due = {517637, 577350, 707106, 1000000, 1931851};
        long[] dueNegative = {-517638, -577351, -707107, -1000000, -1931852};
        for (int angle = 1; angle <= 5; angle++) {
            x = Given.spikes(2, 1);
            x.vBlock(angle);
            Check.same("one flank at angle " + angle, x.profile(14 + angle), due[angle - 1]);
            Check.same("other flank at angle " + angle, x.profile(14 - angle), due[angle - 1]);
            Check.same("itself at angle " + angle, x.profile(2), 1000000);
            x = Given.spikes(2, -1);
            x.vBlock(angle);
            Check.same("negative flank at angle " + angle, x.profile(14 + angle), dueNegative[angle - 1]);
        }
        x = new RoundnessInstrument();
        Check.same("vBlock of zeros", x.vBlock(5), 0);
        Check.same("vBlock(0)", x.vBlock(0), Given.BAD);
        Check.same("vBlock(6)", x.vBlock(6), Given.BAD);
        Check.same("vBlock(MIN)", x.vBlock(Integer.MIN_VALUE), Given.BAD);
        Check.same("vBlock is remembered", x.undo(), 0);
    }

    private static void vBlockTooGreat() {
        RoundnessInstrument x = new RoundnessInstrument();
        x.setSteps(3);
        for (int k = 0; k < 24; k++) {
            x.read(k % 8 == 0 ? -10000 : 0);
        }
        for (int k = 0; k < 24; k++) {
            x.read(k == 8 ? -10000 : 0);
        }
        x.subtract(0, 0);
        x.subtract(0, 1);
        Check.same("just not too great", x.vBlock(4), 1);
        Check.same("the greatest profile", x.profile(16), 40000000000L);
        x.undo();
        x.setTrue(false, 16, -1);
        Check.same("one more", x.subtract(3, 0), 1);
        Check.same("too great", x.vBlock(4), Given.BAD);
        Check.same("it stays", x.profile(8), 20000000000L);
        Check.same("the error is not remembered", x.undo(), 2);
    }

    private static void isBlindInVBlock() {
        RoundnessInstrument x = new RoundnessInstrument();
        for (int angle = 1; angle <= 5; angle++) {
            for (int lobes = 1; lobes <= 12; lobes++) {
                int turned = lobes * angle % 24;
                boolean even = turned == 12 - angle || turned == 12 + angle;
                boolean odd = turned == angle || turned == 24 - angle;
                boolean blind = lobes % 2 == 0 ? even : odd;
                Check.same("isBlindInVBlock(" + angle + ", " + lobes + ")",
                        x.isBlindInVBlock(angle, lobes), blind ? 1 : 0);
            }
        }
        Check.same("one lobe", x.isBlindInVBlock(3, 1), 1);
        Check.same("ten lobes", x.isBlindInVBlock(4, 10), 1);
        Check.same("angle 0", x.isBlindInVBlock(0, 3), Given.BAD);
        Check.same("angle 6", x.isBlindInVBlock(6, 3), Given.BAD);
        Check.same("lobes 0", x.isBlindInVBlock(3, 0), Given.BAD);
        Check.same("lobes 13", x.isBlindInVBlock(3, 13), Given.BAD);
        Check.same("angle MAX", x.isBlindInVBlock(Integer.MAX_VALUE, 3), Given.BAD);
        Check.same("lobes MIN", x.isBlindInVBlock(3, Integer.MIN_VALUE), Given.BAD);
    }

    private static void undo() {
        RoundnessInstrument x = Given.spikes(0, 1);
        x.rotate(1);
        x.rotate(1);
        Check.same("undo", x.undo(), 2);
        Check.same("before the second", x.profile(1), 1000000);
        Check.same("undo again", x.undo(), 1);
        Check.same("before the first", x.profile(0), 1000000);
        Check.same("redo", x.redo(), 1);
        Check.same("after the first", x.profile(1), 1000000);
        Check.same("undo what was redone", x.undo(), 1);
        Check.same("undo the load", x.undo(), 0);
        Check.profile("the first profile", x, 0);
        Check.same("nothing to undo", x.undo(), Given.NONE);
        Check.profile("still the first profile", x, 0);
        Check.same("redo the load", x.redo(), 2);
        Check.same("redo the first", x.redo(), 1);
        Check.same("redo the second", x.redo(), 0);
        Check.same("after the second", x.profile(2), 1000000);
        Check.same("nothing to redo", x.redo(), Given.NONE);
        Check.same("still after the second", x.profile(2), 1000000);
    }

    private static void undoRemembersTwenty() {
        RoundnessInstrument x = Given.spikes(0, 1);
        for (int i = 1; i <= 45; i++) {
            x.rotate(1);
        }
        for (int left = 19; left >= 0; left--) {
            Check.same("undo, " + left + " left", x.undo(), left);
            Check.same("after undo, " + left + " left", x.profile((25 + left) % 24), 1000000);
        }
        Check.same("no more", x.undo(), Given.NONE);
        for (int left = 19; left >= 0; left--) {
            Check.same("redo, " + left + " left", x.redo(), left);
            Check.same("after redo, " + left + " left", x.profile((45 - left) % 24), 1000000);
        }
        Check.same("no more to redo", x.redo(), Given.NONE);
        Check.same("twenty again", x.undo(), 19);
    }

    private static void redoIsForgotten() {
        RoundnessInstrument x = Given.spikes(0, 1);
        x.rotate(1);
        x.rotate(1);
        x.undo();
        Check.same("a call that changes nothing", x.rotate(0), 0);
        Check.same("nothing to redo", x.redo(), Given.NONE);
        Check.same("it can be undone", x.undo(), 2);
        Check.same("an error", x.rotate(24), Given.BAD);
        Check.same("an error leaves what was undone", x.redo(), 0);
        x.undo();
        x.setTrue(false, 3, 3);
        x.simulateStep();
        x.storeTrace(3);
        x.addRule(0, 12, 1, 3);
        x.violated();
        x.ruleValue(0);
        x.meanSquare();
        x.cylindricity();
        Check.same("other calls leave what was undone", x.redo(), 0);
    }

    private static void everyChangeCanBeUndone() {
        RoundnessInstrument x = Given.spikes(0, 24);
        x.storeTrace(0);
        x.rotate(1);
        x.removeEccentricity();
        x.keepLobes(3, 12);
        x.subtract(3, 0);
        x.vBlock(1);
        x.recall(0);
        long[] due = new long[7];
        for (int left = 6; left >= 0; left--) {
            due[left] = x.profile(2);
            Check.same("undo with " + left + " left", x.undo(), left);
        }
        Check.profile("all undone", x, 0);
        for (int i = 0; i < 7; i++) {
            Check.same("redo " + i, x.redo(), 6 - i);
            Check.same("after redo " + i, x.profile(2), due[i]);
        }
        Check.same("the trace came last", x.profile(0), 24000000);
    }

    private static void harmonic() {
        RoundnessInstrument x = Given.spikes(0, 24);
        for (int h = 0; h <= 12; h++) {
            Check.same("A(" + h + ") at 0", x.harmonic(h, false), h == 0 || h == 12 ? 1000000 : 2000000);
            Check.same("B(" + h + ") at 0", x.harmonic(h, true), 0);
        }
        x = Given.spikes(1, 24);
        long[] cosines = {1000000, 965926, 866025, 707107, 500000, 258819, 0,
            -258819, -500000, -707107, -866025, -965926, -1000000};
        long[] sines = {0, 258819, 500000, 707107, 866025, 965926, 1000000,
            965926, 866025, 707107, 500000, 258819, 0};
        for (int h = 0; h <= 12; h++) {
            int twice = h == 0 || h == 12 ? 1 : 2;
            Check.same("A(" + h + ") at 1", x.harmonic(h, false), twice * cosines[h]);
            Check.same("B(" + h + ") at 1", x.harmonic(h, true), twice * sines[h]);
        }
        x.rotate(-2);
        for (int h = 1; h <= 11; h++) {
            Check.same("A(" + h + ") at 23", x.harmonic(h, false), 2 * cosines[h]);
            Check.same("B(" + h + ") at 23", x.harmonic(h, true), -2 * sines[h]);
        }
        Check.same("harmonic(-1)", x.harmonic(-1, false), Given.NO_VALUE);
        Check.same("harmonic(13)", x.harmonic(13, true), Given.NO_VALUE);
        Check.same("harmonic(MIN)", x.harmonic(Integer.MIN_VALUE, true), Given.NO_VALUE);
    }

    private static void harmonicRoundsDown() {
        long[] cosines = {3472, 6707, 6014, 4910, 3472, 1797, 0, -1798, -3473, -4911, -6015, -6708, -3473};
        long[] sines = {0, 1797, 3472, 4910, 6014, 6707, 6944, 6707, 6014, 4910, 3472, 1797, 0};
        RoundnessInstrument x = Given.fraction(1);
        for (int h = 0; h <= 12; h++) {
            Check.same("A(" + h + ")", x.harmonic(h, false), cosines[h]);
            Check.same("B(" + h + ")", x.harmonic(h, true), sines[h]);
            Check.same("strength(" + h + ")", x.strength(h), Math.abs(cosines[h]) + sines[h]);
        }
        long[] negative = {0, -1798, -3473, -4911, -6015, -6708, -6945, -6708, -6015, -4911, -3473, -1798, 0};
        x = Given.fraction(-1);
        for (int h = 0; h <= 12; h++) {
            Check.same("negative B(" + h + ")", x.harmonic(h, true), negative[h]);
        }
    }

    private static void strength() {
        RoundnessInstrument x = Given.spikes(13, -24);
        Check.same("strength(0)", x.strength(0), 1000000);
        Check.same("strength(1)", x.strength(1), 2 * (965926 + 258819));
        Check.same("strength(12)", x.strength(12), 1000000);
        Check.same("strength(-1)", x.strength(-1), Given.NO_VALUE);
        Check.same("strength(13)", x.strength(13), Given.NO_VALUE);
        Check.same("strength(MAX)", x.strength(Integer.MAX_VALUE), Given.NO_VALUE);
    }

    private static void dominant() {
        RoundnessInstrument x = Given.spikes(0, 24);
        Check.same("dominant(0)", x.dominant(0), 1);
        Check.same("dominant(5)", x.dominant(5), 5);
        Check.same("dominant(11)", x.dominant(11), 11);
        Check.same("dominant(12)", x.dominant(12), 12);
        x.keepLobes(7, 7);
        Check.same("only seven", x.dominant(0), 7);
        Check.same("seven itself", x.dominant(7), 7);
        Check.same("of zeros", new RoundnessInstrument().dominant(3), 3);
        x.keepLobes(12, 12);
        x = Given.spikes(0, 24);
        x.keepLobes(12, 12);
        Check.same("only twelve", x.dominant(4), 12);
        Check.same("dominant(-1)", x.dominant(-1), Given.BAD);
        Check.same("dominant(13)", x.dominant(13), Given.BAD);
        Check.same("dominant(MIN)", x.dominant(Integer.MIN_VALUE), Given.BAD);
    }
}
