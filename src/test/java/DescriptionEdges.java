/** What the description says about numbers, errors and constants, sentence by sentence. */
final class DescriptionEdges {
    private static final int[] COSINES = {1000000, 965926, 866025, 707107, 500000, 258819, 0, -258819, -500000,
        -707107, -866025, -965926, -1000000, -965926, -866025, -707107, -500000, -258819, 0, 258819, 500000, 707107,
        866025, 965926};

    private DescriptionEdges() {
    }

    static void run() {
        units();
        divisions();
        divisionsOfProfiles();
        positions();
        positionsOfProfiles();
        tables();
        reports();
        orderOfChecks();
        noneIsNoError();
        constants();
        lastCall();
        twoObjects();
    }

    private static void units() {
        Doc.describes("Readings are integers, in nanometres, say");
        RoundnessInstrument x = Given.measured(4, 0, 23, -10000);
        Check.same("reading", x.reading(0, 23), -10000);
        Doc.describes("Profiles consist of 24 values in millionths of that unit (micro units), which are longs");
        x.load(0, 0);
        Check.same("last value", x.profile(23), -10000000000L);
        Check.same("no 25th value", x.profile(24), Given.NO_VALUE);
    }

    private static void divisions() {
        Doc.describes("Every division rounds down (towards negative infinity)");
        for (int sign = -1; sign <= 1; sign += 2) {
            boolean up = sign > 0;
            RoundnessInstrument x = Given.measured(3, 0, 7, sign);
            Check.same("spindle / P", x.spindle(7), up ? 333333 : -333334);
            Check.same("part / (P * P)", x.part(7), up ? 222222 : -222223);
            Check.same("part / (P * P), elsewhere", x.part(15), up ? -111112 : 111111);
            x.despike(0, 0);
            Check.same("spike / 2", x.reading(0, 6), up ? 0 : -1);
            x.setEccentricity(sign, 0);
            x.setSteps(2);
            x.simulateStep();
            Check.same("eccentricity / 1000000", x.reading(0, 1), up ? 0 : -1);
            Check.same("opposite eccentricity / 1000000", x.reading(0, 11), up ? -1 : 0);
            x.addLobes(false, 1, sign, 0);
            Check.same("lobes / 1000000", x.setTrue(false, 1, 0), up ? 0 : -1);
            Check.same("opposite lobes / 1000000", x.setTrue(false, 11, 0), up ? -1 : 0);
        }
    }

    private static void divisionsOfProfiles() {
        for (int sign = -1; sign <= 1; sign += 2) {
            boolean up = sign > 0;
            RoundnessInstrument x = Given.fraction(sign);
            Check.same("the profile", x.profile(1), up ? 83333 : -83334);
            Check.same("A(0) / 24000000", x.harmonic(0, false), up ? 3472 : -3473);
            Check.same("A(2) / 12000000", x.harmonic(2, false), up ? 6014 : -6015);
            Check.same("A(12) / 24000000", x.harmonic(12, false), up ? -3473 : 3472);
            Check.same("d(1)", x.deviation(0, 1), up ? 83333 - 6943 : -83334 + 6945);
            Check.same("d(2)", x.deviation(0, 2), up ? -6706 : 6709);
            x.vBlock(1);
            Check.same("flank / c(a)", x.profile(14), up ? 43136 : -43137);
            x.undo();
            x.removeEccentricity();
            Check.same("without eccentricity", x.profile(2), up ? -3472 - 6706 : 3473 + 6709);
            x.undo();
            x.keepLobes(12, 12);
            Check.same("lobes 12", x.profile(0), up ? -3473 : 3472);
            x = new RoundnessInstrument();
            x.storeTrace(0);
            Given.loadSpikes(x, 0, 12 * sign);
            x.storeTrace(3);
            Check.same("axis", x.axis(1, false), up ? 333333 : -333334);
        }
    }

    private static void positions() {
        Doc.describes("Positions are numbered from 0 to 23 and taken modulo 24");
        RoundnessInstrument x = Given.measured(12, 11, 1, 144);
        for (int k = 0; k < 24; k++) {
            Check.same("part beyond 23, " + k, x.part(k), k == 3 ? 11000000 : k % 2 == 1 ? -1000000 : 0);
        }
        // The part's 11000000 at 3 is expected at the positions 5, 7, .. 23, 1 in turn; the last one has the reading.
        Check.same("residual beyond 23", x.residual(), 144000000 - 11000000 - 12000000);
        x = Given.measured(2, 0, 23, 8);
        x.despike(0, 5);
        Check.same("before 0 is 23", x.reading(0, 0), 0);
        Check.same("after 23 is 0", x.reading(0, 23), 0);
        x = Given.measured(2, 0, 0, 8);
        x.despike(0, 3);
        Check.same("23 has 0 behind it", x.reading(0, 23), 4);
        x = new RoundnessInstrument();
        x.setTrue(false, 18, 5);
        x.simulateStep();
        x.simulateStep();
        Check.same("18 + 6 is 0", x.reading(1, 0), 5);
        x.addLobes(true, 11, 1000, 23);
        Check.same("11 * 23 + 23 is 12", x.setTrue(true, 23, 0), -1000);
    }

    private static void positionsOfProfiles() {
        RoundnessInstrument x = Given.spikes(23, 6);
        x.rotate(1);
        Check.same("23 + 1 is 0", x.profile(0), 6000000);
        x.rotate(-1);
        Check.same("0 - 1 is 23", x.profile(23), 6000000);
        x.storeTrace(0);
        x.rotate(23);
        x.storeTrace(1);
        Check.same("23 + 23 is 22", x.difference(0, 1, 23), 0);
        x = Given.spikes(2, 6);
        x.vBlock(4);
        Check.same("2 - 12 + 4 is 18", x.profile(18), 6000000);
        Check.same("2 - 12 - 4 is 10", x.profile(10), 6000000);
    }

    private static void tables() {
        Doc.describes("c(0) to c(6) are 1000000, 965926, 866025, 707107, 500000, 258819, 0");
        for (int k = 0; k <= 6; k++) {
            Check.same("c(" + k + ")", Given.spikes(k, 12).harmonic(1, false), COSINES[k]);
        }
        Doc.describes("c(12 - i) = -c(i) for i from 0 to 6, c(24 - i) = c(i) for i from 0 to 12, and s(i) = c(i - 6)");
        for (int k = 0; k < 24; k++) {
            RoundnessInstrument x = Given.spikes(k, 12);
            Check.same("c(" + k + ")", x.harmonic(1, false), COSINES[k]);
            Check.same("s(" + k + ")", x.harmonic(1, true), COSINES[(k + 18) % 24]);
            for (int h = 2; h < 12; h++) {
                Check.same("c(" + h * k + ")", x.harmonic(h, false), COSINES[h * k % 24]);
                Check.same("s(" + h * k + ")", x.harmonic(h, true), COSINES[(h * k + 18) % 24]);
            }
        }
        RoundnessInstrument x = Given.spikes(0, 24);
        x.keepLobes(1, 1);
        RoundnessInstrument y = Given.spikes(6, 24);
        y.keepLobes(1, 1);
        for (int k = 0; k < 24; k++) {
            Check.same("twice c(" + k + ")", x.profile(k), 2 * COSINES[k]);
            Check.same("twice s(" + k + ")", y.profile(k), 2 * COSINES[(k + 18) % 24]);
        }
    }

    private static void reports() {
        Doc.describes("Errors are reported by the constants below");
        RoundnessInstrument x = new RoundnessInstrument();
        Check.same("BAD_VALUE", x.setSteps(1), -1000001);
        Check.same("NOT_NOW", x.load(1, 0), -1000002);
        Check.same("NONE", x.undo(), -1000003);
        for (int height = 0; height < 6; height++) {
            x.storeTrace(height);
        }
        Check.same("FULL", x.storeTrace(6), -1000004);
        Doc.describes("Methods that return a long return NO_VALUE, those that return a double or float -1.0");
        x = new RoundnessInstrument();
        long[] answers = {x.part(0), x.part(24), x.spindle(0), x.spindle(-1), x.residual(), x.profile(24),
            x.harmonic(13, true), x.strength(13), x.centre(4, true), x.deviation(4, 0), x.deviation(0, 24),
            x.depthFor(4, 1), x.depthFor(0, 25), x.traceValue(0, 0), x.axis(0, true), x.axis(101, true), x.taper(),
            x.difference(0, 0, 0), x.ruleValue(0)};
        for (int i = 0; i < answers.length; i++) {
            Check.same("long error " + i, answers[i], Long.MIN_VALUE);
        }
        Check.same("roundness", x.roundness(4), -1.0);
        Check.same("cylindricity", x.cylindricity(), -1.0);
    }

    private static void orderOfChecks() {
        Doc.describes("Where several errors can apply, the order of the @return line is the order of the checks");
        RoundnessInstrument x = Given.measured(4, 0, 0, 10000);
        Check.same("read a bad value when complete", x.read(10001), Given.BAD);
        x.removeReadings(1);
        Check.same("a bad source, not complete", x.load(5, 0), Given.BAD);
        Check.same("no such step, not finished", x.load(0, 4), Given.BAD);
        Check.same("subtract a bad source, not complete", x.subtract(-1, 0), Given.BAD);
        Check.same("subtract no such step", x.subtract(0, -1), Given.BAD);
        for (int i = 1; i <= 4; i++) {
            x.subtract(0, 0);
        }
        Check.same("the profile can't become greater", x.subtract(0, 0), Given.BAD);
        Check.same("subtract a step that is not finished", x.subtract(0, 3), Given.NOT_NOW);
        Check.same("subtract the part, not complete", x.subtract(1, 0), Given.NOT_NOW);
        for (int height = 0; height < 6; height++) {
            x.storeTrace(height);
        }
        Check.same("a bad height when full", x.storeTrace(-1), Given.BAD);
        Check.same("a known height when full", x.storeTrace(5), Given.BAD);
        for (int rule = 0; rule < 8; rule++) {
            x.addRule(rule, 12, 0, 0);
        }
        Check.same("a bad rule when full", x.addRule(0, 12, 0, 20001), Given.BAD);
    }

    private static void noneIsNoError() {
        Doc.describes("NONE is returned only if no error applies");
        RoundnessInstrument x = new RoundnessInstrument();
        Check.same("not recorded", x.reading(3, 23), Given.NONE);
        Check.same("not recorded, no such step", x.reading(4, 23), Given.BAD);
        Check.same("not recorded, no such position", x.reading(3, 24), Given.BAD);
        x = Given.measured(2, 0, 0, 0);
        Check.same("no next position", x.progress(3), Given.NONE);
        Check.same("no such number", x.progress(4), Given.BAD);
    }

    private static void constants() {
        Doc.describes("`BAD_VALUE = -1000001`: An argument is out of range");
        RoundnessInstrument x = new RoundnessInstrument();
        Check.same("BAD_VALUE", RoundnessInstrument.BAD_VALUE, -1000001);
        Check.same("an argument out of range", x.rotate(24), RoundnessInstrument.BAD_VALUE);
        Doc.describes("`NOT_NOW = -1000002`: The measurement is complete, or it is not complete, or a step");
        Check.same("NOT_NOW", RoundnessInstrument.NOT_NOW, -1000002);
        Check.same("not complete", x.load(2, 0), RoundnessInstrument.NOT_NOW);
        x.read(0);
        Check.same("a step has been begun", x.simulateStep(), RoundnessInstrument.NOT_NOW);
        Check.same("complete", Given.measured(2, 0, 0, 0).read(0), RoundnessInstrument.NOT_NOW);
        Doc.describes("`FULL = -1000004`: There is no more room");
        Check.same("FULL", RoundnessInstrument.FULL, -1000004);
        for (int rule = 0; rule < 8; rule++) {
            x.addRule(0, 12, 0, 0);
        }
        Check.same("no more room", x.addRule(0, 12, 0, 0), RoundnessInstrument.FULL);
        Doc.describes("`NONE = -1000003`: There is no such thing");
        Check.same("NONE", RoundnessInstrument.NONE, -1000003);
        Check.same("nothing to redo", x.redo(), RoundnessInstrument.NONE);
        Doc.describes("not an error");
        Check.same("NONE is no error of a long", x.strength(0), 0);
        Doc.describes("`NO_VALUE = Long.MIN_VALUE`: The error value of methods that return a long");
        Check.same("NO_VALUE", RoundnessInstrument.NO_VALUE, Long.MIN_VALUE);
        Check.same("an error", x.profile(24), RoundnessInstrument.NO_VALUE);
    }

    /** "An object is used for at most 512 calls": all of them are answered. */
    private static void lastCall() {
        Check.about("An object is used for at most 512 calls");
        RoundnessInstrument x = Given.spikes(0, 1);
        int made = 24 + 1 + 1;
        while (made < 510) {
            x.rotate(1);
            made++;
        }
        Check.same("call 511", x.profile((510 - 26) % 24), 1000000);
        Check.same("call 512", x.undo(), 19);
        x = new RoundnessInstrument();
        for (int call = 1; call <= 510; call++) {
            x.read(call);
            call++;
            x.removeReadings(1);
        }
        Check.same("call 511, a reading", x.read(9), 1);
        Check.same("call 512, a reading", x.reading(0, 0), 9);
    }

    /** "Each of them begins with a new object": nothing of one object is found in another one. */
    private static void twoObjects() {
        Doc.says(1, "Creates an instrument without readings");
        RoundnessInstrument x = Given.measured(8, 3, 4, 5);
        x.setTrue(false, 1, 6);
        x.setTrue(true, 1, 6);
        x.setEccentricity(7, 8);
        x.load(0, 3);
        x.storeTrace(9);
        x.addRule(0, 12, 3, 1);
        Given.type(x, "n2");
        RoundnessInstrument y = new RoundnessInstrument();
        y.setTrue(false, 2, 3);
        Check.same("steps", y.progress(0), 4);
        Check.same("readings", y.progress(1), 0);
        Check.same("true part", y.setTrue(false, 1, 0), 0);
        Check.same("true spindle", y.setTrue(true, 1, 0), 0);
        Check.same("eccentricity", y.setEccentricity(0, 0), 0);
        Check.profile("profile", y, 0);
        Check.same("undo", y.undo(), Given.NONE);
        Check.same("traces", y.taper(), Given.NO_VALUE);
        Check.same("rules", y.clearRules(), 0);
        Check.same("text", y.clearText(), 0);
        Check.same("the first one stays", x.progress(1), 192);
        Check.same("its rule", x.violated(), 1);
        Check.same("its true part", x.setTrue(false, 2, 0), 0);
    }
}
