/** Promises 50 to 52: the true profiles and the eccentricity. */
public final class SimulationTest {
    public static void main(String[] args) {
        setTrue();
        setTrueErrors();
        addLobes();
        addLobesRoundsDown();
        addLobesLimits();
        addLobesErrors();
        setEccentricity();
        Check.finish();
    }

    private static void setTrue() {
        RoundnessInstrument x = new RoundnessInstrument();
        Check.same("part", x.setTrue(false, 0, -5000), 0);
        Check.same("part again", x.setTrue(false, 0, 5000), -5000);
        Check.same("spindle", x.setTrue(true, 0, 17), 0);
        Check.same("part stays", x.setTrue(false, 0, 1), 5000);
        Check.same("spindle stays", x.setTrue(true, 0, 0), 17);
        Check.same("last position", x.setTrue(true, 23, 3), 0);
        Check.same("last position again", x.setTrue(true, 23, 4), 3);
        x.load(4, 0);
        Check.same("loaded", x.profile(23), 4000000);
    }

    private static void setTrueErrors() {
        RoundnessInstrument x = new RoundnessInstrument();
        x.setTrue(false, 5, 9);
        Check.same("position -1", x.setTrue(false, -1, 0), Given.BAD);
        Check.same("position 24", x.setTrue(true, 24, 0), Given.BAD);
        Check.same("position MIN", x.setTrue(true, Integer.MIN_VALUE, 0), Given.BAD);
        Check.same("value -5001", x.setTrue(false, 5, -5001), Given.BAD);
        Check.same("value 5001", x.setTrue(false, 5, 5001), Given.BAD);
        Check.same("value MAX", x.setTrue(false, 5, Integer.MAX_VALUE), Given.BAD);
        Check.same("nothing changed", x.setTrue(false, 5, 0), 9);
    }

    private static void addLobes() {
        RoundnessInstrument x = new RoundnessInstrument();
        Check.same("two lobes", x.addLobes(true, 2, 10, 0), 1);
        x.load(4, 0);
        Check.profile("two lobes", x, 10000000, 8000000, 5000000, 0, -5000000, -9000000,
            -10000000, -9000000, -5000000, 0, 5000000, 8000000);
        x.load(3, 0);
        Check.profile("the part stays", x, 0);
        Check.same("with a phase", x.addLobes(false, 3, 2, 2), 1);
        x.load(3, 0);
        Check.profile("with a phase", x, 1000000, 0, -1000000, -2000000, -2000000, -1000000, 1000000, 1000000);
        Check.same("zero lobes", x.addLobes(false, 0, 3, 0), 1);
        x.load(3, 0);
        Check.profile("zero lobes", x, 4000000, 3000000, 2000000, 1000000, 1000000, 2000000, 4000000, 4000000);
        Check.same("no amplitude", x.addLobes(false, 5, 0, 3), 0);
        Check.same("cosine 0 everywhere", x.addLobes(false, 12, 1000, 6), 0);
    }

    private static void addLobesRoundsDown() {
        RoundnessInstrument x = new RoundnessInstrument();
        x.addLobes(false, 1, 1, 0);
        int[] due = {1, 0, 0, 0, 0, 0, 0, -1, -1, -1, -1, -1, -1, -1, -1, -1, -1, -1, 0, 0, 0, 0, 0, 0};
        for (int k = 0; k < 24; k++) {
            Check.same("amplitude 1 at " + k, x.setTrue(false, k, 0), due[k]);
        }
        x.addLobes(false, 1, -1, 23);
        int[] negative = {-1, -1, -1, -1, -1, -1, -1, 0, 0, 0, 0, 0, 0, 1, 0, 0, 0, 0, 0, 0, -1, -1, -1, -1};
        for (int k = 0; k < 24; k++) {
            Check.same("amplitude -1 at " + k, x.setTrue(false, k, 0), negative[k]);
        }
    }

    private static void addLobesLimits() {
        RoundnessInstrument x = new RoundnessInstrument();
        for (int i = 1; i <= 5; i++) {
            Check.same("1000 times " + i, x.addLobes(true, 0, 1000, 0), 1);
        }
        Check.same("at the limit", x.addLobes(true, 0, 1000, 0), 0);
        x.setTrue(true, 9, 4500);
        Check.same("one position can change", x.addLobes(true, 0, 1000, 0), 1);
        Check.same("it is limited", x.setTrue(true, 9, 0), 5000);
        x = new RoundnessInstrument();
        for (int i = 1; i <= 5; i++) {
            x.addLobes(false, 0, -1000, 0);
        }
        Check.same("at the other limit", x.addLobes(false, 0, -1, 0), 0);
        Check.same("the least value", x.setTrue(false, 0, 0), -5000);
    }

    private static void addLobesErrors() {
        RoundnessInstrument x = new RoundnessInstrument();
        Check.same("lobes -1", x.addLobes(false, -1, 5, 0), Given.BAD);
        Check.same("lobes 13", x.addLobes(false, 13, 5, 0), Given.BAD);
        Check.same("lobes 12", x.addLobes(false, 12, 5, 23), 1);
        Check.same("amplitude -1001", x.addLobes(false, 3, -1001, 0), Given.BAD);
        Check.same("amplitude 1001", x.addLobes(false, 3, 1001, 0), Given.BAD);
        Check.same("amplitude MIN", x.addLobes(true, 3, Integer.MIN_VALUE, 0), Given.BAD);
        Check.same("phase -1", x.addLobes(true, 3, 5, -1), Given.BAD);
        Check.same("phase 24", x.addLobes(true, 3, 5, 24), Given.BAD);
        x.load(4, 0);
        Check.profile("nothing was added", x, 0);
        Check.same("amplitude 1000", x.addLobes(true, 3, 1000, 0), 1);
        Check.same("amplitude -1000", x.addLobes(true, 3, -1000, 0), 1);
    }

    private static void setEccentricity() {
        RoundnessInstrument x = new RoundnessInstrument();
        Check.same("none", x.setEccentricity(0, 0), 0);
        Check.same("x", x.setEccentricity(-5000, 0), 1);
        Check.same("y", x.setEccentricity(-5000, 5000), 1);
        Check.same("the same", x.setEccentricity(-5000, 5000), 0);
        Check.same("x below", x.setEccentricity(-5001, 5000), Given.BAD);
        Check.same("x above", x.setEccentricity(5001, 5000), Given.BAD);
        Check.same("y below", x.setEccentricity(-5000, -5001), Given.BAD);
        Check.same("y above", x.setEccentricity(-5000, 5001), Given.BAD);
        Check.same("x MIN", x.setEccentricity(Integer.MIN_VALUE, 0), Given.BAD);
        Check.same("nothing changed", x.setEccentricity(-5000, 5000), 0);
        Check.same("swapped", x.setEccentricity(5000, -5000), 1);
    }
}
