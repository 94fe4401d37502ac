/** Promises 50 to 52 and what the description says about the simulation, sentence by sentence. */
final class SimulationEdges {
    private static final int MIN = Integer.MIN_VALUE;
    private static final int MAX = Integer.MAX_VALUE;

    private SimulationEdges() {
    }

    static void run() {
        description();
        readings();
        limits();
        setTrue();
        addLobes();
        addLobesArguments();
        addLobesErrors();
        setEccentricity();
    }

    private static void description() {
        Doc.describes("There are a true part profile p and a true spindle profile q, with 24 integers each, and an");
        RoundnessInstrument x = new RoundnessInstrument();
        x.setTrue(false, 23, 11);
        x.setTrue(true, 0, 22);
        x.setEccentricity(300, 0);
        x.load(3, 0);
        Check.same("p(23)", x.profile(23), 11000000);
        Check.same("p(0)", x.profile(0), 0);
        x.load(4, 0);
        Check.same("q(0)", x.profile(0), 22000000);
        Check.same("q(23)", x.profile(23), 0);
        x.simulateStep();
        Check.same("ex in the unit of the readings", x.reading(0, 0), 322);
        Doc.describes("all are 0 at first");
        x = new RoundnessInstrument();
        for (int k = 0; k < 24; k++) {
            Check.same("p(" + k + ")", x.setTrue(false, k, 0), 0);
            Check.same("q(" + k + ")", x.setTrue(true, k, 0), 0);
        }
        Check.same("eccentricity", x.setEccentricity(0, 0), 0);
        x.simulateStep();
        for (int k = 0; k < 24; k++) {
            Check.same("reading " + k, x.reading(0, k), 0);
        }
    }

    private static void readings() {
        Doc.describes("In a simulated step j the reading for position k is p(k - j * 24 / P) + q(k) + (ex * c(k - j *");
        int[] cosines = {100, 96, 86, 70, 50, 25, 0, -26, -50, -71, -87, -97,
            -100, -97, -87, -71, -50, -26, 0, 25, 50, 70, 86, 96};
        for (int steps : Given.STEP_COUNTS) {
            RoundnessInstrument x = new RoundnessInstrument();
            x.setSteps(steps);
            x.setTrue(false, 0, 2000);
            x.setTrue(true, 23, 4000);
            x.setEccentricity(100, 0);
            x.simulateStep();
            x.setEccentricity(0, 100);
            x.simulateStep();
            int turn = 24 / steps;
            for (int k = 0; k < 24; k++) {
                int spindle = k == 23 ? 4000 : 0;
                Check.same("step 0 of " + steps + " at " + k, x.reading(0, k),
                        (k == 0 ? 2000 : 0) + spindle + cosines[k]);
                Check.same("step 1 of " + steps + " at " + k, x.reading(1, k),
                        (k == turn ? 2000 : 0) + spindle + cosines[(k - turn - 6 + 48) % 24]);
            }
        }
        RoundnessInstrument x = new RoundnessInstrument();
        x.setEccentricity(1, -1);
        x.simulateStep();
        Check.same("(707107 - 707107) / 1000000", x.reading(0, 3), 0);
        Check.same("(500000 - 866025) / 1000000", x.reading(0, 4), -1);
        Check.same("(965926 - 258819) / 1000000", x.reading(0, 1), 0);
    }

    private static void limits() {
        for (int sign = -1; sign <= 1; sign += 2) {
            for (int e = -2; e <= 2; e++) {
                RoundnessInstrument x = new RoundnessInstrument();
                x.setTrue(false, 0, 5000 * sign);
                x.setTrue(true, 0, 5000 * sign);
                x.setEccentricity(e, 0);
                x.simulateStep();
                int due = Math.max(-10000, Math.min(10000, 10000 * sign + e));
                Check.same("limited to the range of readings", x.reading(0, 0), due);
            }
            RoundnessInstrument x = new RoundnessInstrument();
            x.addLobes(false, 0, 1000 * sign, 0);
            x.addLobes(true, 0, 1000 * sign, 0);
            x.setTrue(false, 3, 5000 * sign);
            x.setTrue(true, 3, 5000 * sign);
            x.setEccentricity(5000 * sign, 5000 * sign);
            x.simulateStep();
            Check.same("17071 is limited", x.reading(0, 3), 10000 * sign);
            Check.same("9071 is not", x.reading(0, 2), sign > 0 ? 2000 + 6830 : -2000 - 6831);
        }
    }

    private static void setTrue() {
        RoundnessInstrument x = new RoundnessInstrument();
        Doc.says(50, "Sets a value of a true profile");
        x.setTrue(false, 4, 9);
        x.load(3, 0);
        Check.same("set", x.profile(4), 9000000);
        Check.same("others stay", x.profile(5), 0);
        Doc.says(50, "`spindle`: true for the spindle, false for the part");
        x.setTrue(true, 4, -3);
        x.load(4, 0);
        Check.same("spindle", x.profile(4), -3000000);
        x.load(3, 0);
        Check.same("part", x.profile(4), 9000000);
        Doc.says(50, "`position`: 0 to 23");
        Check.same("first", x.setTrue(false, 0, 1), 0);
        Check.same("last", x.setTrue(false, 23, 2), 0);
        Doc.says(50, "`value`: -5000 to 5000");
        Check.same("least", x.setTrue(false, 0, -5000), 1);
        Check.same("greatest", x.setTrue(false, 0, 5000), -5000);
        Doc.says(50, "Returns the previous value");
        Check.same("the greatest", x.setTrue(false, 0, 7), 5000);
        Check.same("the same again", x.setTrue(false, 0, 7), 7);
        Check.same("of the spindle", x.setTrue(true, 4, 0), -3);
        Doc.says(50, "BAD_VALUE");
        for (int wrong : new int[] {MIN, -1, 24, MAX}) {
            Check.same("position " + wrong, x.setTrue(false, wrong, 0), Given.BAD);
            Check.same("position " + wrong + " of the spindle", x.setTrue(true, wrong, 0), Given.BAD);
        }
        for (int wrong : new int[] {MIN, -5001, 5001, MAX}) {
            Check.same("value " + wrong, x.setTrue(false, 0, wrong), Given.BAD);
            Check.same("value " + wrong + " of the spindle", x.setTrue(true, 4, wrong), Given.BAD);
        }
        Check.same("it stays", x.setTrue(false, 0, 0), 7);
    }

    private static void addLobes() {
        Doc.says(51, "Adds lobes to a true profile: at each position k, (amplitude * c(lobes * k + phase)) / 1000000 is");
        RoundnessInstrument x = new RoundnessInstrument();
        x.addLobes(false, 2, 100, 3);
        x.addLobes(false, 12, 10, 0);
        int[] due = {70, 25, -26, -71, -97, -97, -71, -26, 25, 70, 96, 96};
        for (int k = 0; k < 24; k++) {
            Check.same("p(" + k + ")", x.setTrue(false, k, 0), due[k % 12] + (k % 2 == 0 ? 10 : -10));
        }
        for (int sign = -1; sign <= 1; sign += 2) {
            x.setTrue(true, 0, 4990 * sign);
            x.setTrue(true, 1, 4989 * sign);
            x.setTrue(true, 2, 4991 * sign);
            x.addLobes(true, 0, 10 * sign, 0);
            Check.same("just at the limit", x.setTrue(true, 0, 0), 5000 * sign);
            Check.same("below the limit", x.setTrue(true, 1, 0), 4999 * sign);
            Check.same("beyond the limit", x.setTrue(true, 2, 0), 5000 * sign);
            Check.same("elsewhere", x.setTrue(true, 3, 0), 10 * sign);
            x = new RoundnessInstrument();
        }
    }

    private static void addLobesArguments() {
        RoundnessInstrument x = new RoundnessInstrument();
        Doc.says(51, "`spindle`: true for the spindle, false for the part");
        x.addLobes(true, 0, 5, 0);
        Check.same("spindle", x.setTrue(true, 7, 0), 5);
        Check.same("part", x.setTrue(false, 7, 0), 0);
        Doc.says(51, "`lobes`: 0 to 12");
        Check.same("0", x.addLobes(false, 0, 3, 0), 1);
        Check.same("12", x.addLobes(false, 12, 1, 0), 1);
        Check.same("even", x.setTrue(false, 22, 0), 4);
        Check.same("odd", x.setTrue(false, 23, 0), 2);
        Doc.says(51, "`amplitude`: -1000 to 1000");
        Check.same("-1000", x.addLobes(false, 0, -1000, 0), 1);
        Check.same("by -1000", x.setTrue(false, 23, 0), -1000);
        Check.same("1000", x.addLobes(false, 0, 1000, 0), 1);
        Check.same("by 1000", x.setTrue(false, 23, 0), 1000);
        Doc.says(51, "`phase`: 0 to 23");
        x = new RoundnessInstrument();
        Check.same("0", x.addLobes(false, 1, 1000, 0), 1);
        Check.same("c(22)", x.setTrue(false, 22, 0), 866);
        Check.same("c(1)", x.setTrue(false, 1, 0), 965);
        Check.same("23", x.addLobes(false, 1, 1000, 23), 1);
        Check.same("c(45)", x.setTrue(false, 22, 0), 707);
        Check.same("c(24)", x.setTrue(false, 1, 0), 1000);
        Doc.says(51, "Returns 1 if this changes the profile, otherwise 0");
        Check.same("amplitude 0", x.addLobes(false, 5, 0, 3), 0);
        Check.same("c is 0 everywhere", x.addLobes(false, 12, 1000, 6), 0);
        Check.same("one position alone", new RoundnessInstrument().addLobes(false, 1, 1, 0), 1);
        x = new RoundnessInstrument();
        for (int i = 1; i <= 5; i++) {
            Check.same("1000 the time " + i, x.addLobes(true, 0, 1000, 0), 1);
        }
        Check.same("all at the limit", x.addLobes(true, 0, 1000, 0), 0);
        x.setTrue(true, 23, 4999);
        Check.same("all but one at the limit", x.addLobes(true, 0, 1000, 0), 1);
    }

    private static void addLobesErrors() {
        Doc.says(51, "BAD_VALUE");
        RoundnessInstrument x = new RoundnessInstrument();
        for (int wrong : new int[] {MIN, -1, 13, 24, MAX}) {
            Check.same("lobes " + wrong, x.addLobes(false, wrong, 5, 0), Given.BAD);
        }
        for (int wrong : new int[] {MIN, -1001, 1001, MAX}) {
            Check.same("amplitude " + wrong, x.addLobes(false, 3, wrong, 0), Given.BAD);
        }
        for (int wrong : new int[] {MIN, -1, 24, MAX}) {
            Check.same("phase " + wrong, x.addLobes(false, 3, 5, wrong), Given.BAD);
        }
        x.load(3, 0);
        Check.profile("nothing was added", x, 0);
    }

    private static void setEccentricity() {
        Doc.says(52, "Sets the eccentricity");
        RoundnessInstrument x = new RoundnessInstrument();
        x.setEccentricity(30, -40);
        x.simulateStep();
        Check.same("x", x.reading(0, 0), 30);
        Check.same("y", x.reading(0, 6), -40);
        Doc.says(52, "`x`: -5000 to 5000");
        Check.same("-5000", x.setEccentricity(-5000, 0), 1);
        Check.same("5000", x.setEccentricity(5000, 0), 1);
        Doc.says(52, "`y`: -5000 to 5000");
        Check.same("-5000", x.setEccentricity(5000, -5000), 1);
        Check.same("5000", x.setEccentricity(5000, 5000), 1);
        Doc.says(52, "Returns 1 if this changes it, otherwise 0");
        Check.same("the same", x.setEccentricity(5000, 5000), 0);
        Check.same("only x", x.setEccentricity(4999, 5000), 1);
        Check.same("only y", x.setEccentricity(4999, 4999), 1);
        Check.same("back to 0", x.setEccentricity(0, 0), 1);
        Check.same("0 again", x.setEccentricity(0, 0), 0);
        Doc.says(52, "BAD_VALUE");
        for (int wrong : new int[] {MIN, -5001, 5001, MAX}) {
            Check.same("x " + wrong, x.setEccentricity(wrong, 9), Given.BAD);
            Check.same("y " + wrong, x.setEccentricity(9, wrong), Given.BAD);
        }
        Check.same("it stays", x.setEccentricity(0, 0), 0);
    }
}
