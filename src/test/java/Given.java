/** What tests begin with: instruments that have already been used. */
final class Given {
    static final int BAD = RoundnessInstrument.BAD_VALUE;
    static final int NOT_NOW = RoundnessInstrument.NOT_NOW;
    static final int FULL = RoundnessInstrument.FULL;
    static final int NONE = RoundnessInstrument.NONE;
    static final long NO_VALUE = RoundnessInstrument.NO_VALUE;
    static final int[] STEP_COUNTS = {2, 3, 4, 6, 8, 12};

    private Given() {
    }

    /** A complete measurement of readings that are 0 but for one. */
    static RoundnessInstrument measured(int steps, int step, int position, int value) {
        RoundnessInstrument x = new RoundnessInstrument();
        x.setSteps(steps);
        for (int i = 0; i < steps * 24; i++) {
            x.read(i == step * 24 + position ? value : 0);
        }
        return x;
    }

    /** The present profile is 0 but for some positions: pairs of a position and a value in whole units. */
    static RoundnessInstrument spikes(int... pairs) {
        RoundnessInstrument x = new RoundnessInstrument();
        loadSpikes(x, pairs);
        return x;
    }

    /** Makes the true part profile 0 but for some positions, and loads it. */
    static void loadSpikes(RoundnessInstrument x, int... pairs) {
        for (int k = 0; k < 24; k++) {
            x.setTrue(false, k, 0);
        }
        for (int i = 0; i < pairs.length; i += 2) {
            x.setTrue(false, pairs[i], pairs[i + 1]);
        }
        x.load(3, 0);
    }

    /** The present profile has 83333 at position 1 (or -83334, if the sign is -1), and 0 elsewhere. */
    static RoundnessInstrument fraction(int sign) {
        RoundnessInstrument x = measured(12, 0, 1, sign);
        x.load(2, 0);
        return x;
    }

    /** The present profile has two lobes with an amplitude of 500 units; every reference circle stays at (0, 0). */
    static RoundnessInstrument twoLobes() {
        RoundnessInstrument x = new RoundnessInstrument();
        x.addLobes(false, 2, 500, 0);
        x.load(3, 0);
        return x;
    }

    static void type(RoundnessInstrument x, String text) {
        for (int i = 0; i < text.length(); i++) {
            x.type(text.charAt(i));
        }
    }
}
