/** Promises 26 to 32 and what the description says about reference circles, sentence by sentence. */
final class RoundnessEdges {
    private static final int MIN = Integer.MIN_VALUE;
    private static final int MAX = Integer.MAX_VALUE;

    private RoundnessEdges() {
    }

    static void run() {
        deviations();
        leastSquares();
        firstStep();
        values();
        firstOfSeveral();
        sameStep();
        lastStep();
        width();
        centre();
        deviation();
        roundness();
        extreme();
        meanSquare();
        materialAt();
        depthFor();
    }

    /** The centre by a method of a profile that is 0 but for some spikes: pairs of a position and a value. */
    private static void centreOf(int method, long dueX, long dueY, int... spikes) {
        RoundnessInstrument x = Given.spikes(spikes);
        String what = "centre by " + method + " of " + java.util.Arrays.toString(spikes);
        Check.same(what + ", x", x.centre(method, false), dueX);
        Check.same(what + ", y", x.centre(method, true), dueY);
    }

    private static void deviations() {
        Doc.describes("The deviations about a centre (x, y), two longs in micro units, are d(k) = z(k) - (x * c(k) + y");
        RoundnessInstrument x = Given.spikes(14, 24);
        // The centre by least squares is (-1732050, -1000000).
        Check.same("d(0)", x.deviation(0, 0), 1732050);
        Check.same("d(6)", x.deviation(0, 6), 1000000);
        Check.same("d(12)", x.deviation(0, 12), -1732050);
        Check.same("d(14)", x.deviation(0, 14), 24000000 - 1999998);
        Check.same("d(18)", x.deviation(0, 18), -1000000);
        // -1732050 * 965926 - 1000000 * 258819 is -1931851.1283, -1732050 * -965926 + 1000000 * 258819 its opposite.
        Check.same("d(1), rounded down before it is subtracted", x.deviation(0, 1), 1931852);
        Check.same("d(13)", x.deviation(0, 13), -1931851);
    }

    private static void leastSquares() {
        Doc.describes("The centres are, by method:");
        Doc.describes("0 least squares: x = A(1), y = B(1)");
        RoundnessInstrument x = Given.spikes(3, 900, 9, -400, 14, 250);
        Check.same("x", x.centre(0, false), x.harmonic(1, false));
        Check.same("y", x.centre(0, true), x.harmonic(1, true));
        centreOf(0, -1732050, -1000000, 14, 24);
        centreOf(0, 0, -2000000, 18, 24);
    }

    private static void firstStep() {
        Doc.describes("1 minimum zone, 2 minimum circumscribed, 3 maximum inscribed: found by a search that begins at");
        for (int method = 1; method <= 3; method++) {
            RoundnessInstrument x = new RoundnessInstrument();
            Check.same("x of zeros by " + method, x.centre(method, false), 0);
            Check.same("y of zeros by " + method, x.centre(method, true), 0);
        }
        // These end elsewhere if the search begins with 2^29 or 2^31.
        centreOf(3, -1174475132, -100733312, 2, 5000, 8, -4000, 20, -5000);
        centreOf(2, 1174475140, 100733316, 8, 3000, 6, -3000, 20, 4000);
    }

    private static void values() {
        Doc.describes("The value of a centre is the greatest deviation minus the least one for method 1, the greatest");
        centreOf(1, 12000000, 0, 0, 24);
        centreOf(1, -12000000, 0, 0, -24);
        centreOf(2, 12000000, 1116416, 0, 24);
        centreOf(2, 0, 0, 0, -24);
        centreOf(3, 0, 0, 0, 24);
        centreOf(3, -12000000, 533504, 0, -24);
    }

    /** Each of these ends elsewhere if two of the eight centres change places, or the last of several is taken. */
    private static void firstOfSeveral() {
        Doc.describes("the one with the least value is considered, the first one of several");
        centreOf(1, 2517770, -2517768, 22, 7, 8, -7);
        centreOf(1, 3751289, 0, 10, -7, 2, 7);
        centreOf(1, 3897089, -2249983, 10, -9, 19, 4);
        centreOf(1, -361559904, 609315320, 14, -700, 13, 900);
        centreOf(1, 707107, -787183, 19, 2, 15, -1);
        centreOf(1, -1048584, -3913344, 1, -4, 17, 9);
        centreOf(1, -3913348, -1048580, 6, 1, 1, -9);
        centreOf(1, 0, -2666666, 22, 4, 2, -4);
        centreOf(1, -281881848, 75530240, 15, 400, 23, -600);
        centreOf(2, -24288, 500000, 6, 1);
        centreOf(2, -3000000, 133376, 12, 6);
        centreOf(2, 60362864, -498482835, 22, 800, 16, 900);
        centreOf(2, -4500000, 590880, 12, 9);
        centreOf(2, -1233312, 863840, 10, 3);
        centreOf(3, 334406018, 301989888, 15, -900);
        centreOf(3, -3000000, 133376, 0, -6);
        centreOf(3, -145728, 3000000, 18, -6);
        centreOf(3, -359680, 359682, 9, 1, 21, -1);
        centreOf(3, -4500000, 590880, 0, -9);
        centreOf(3, 121440, -2500000, 19, 6, 6, -5);
    }

    private static void sameStep() {
        Doc.describes("If its value is less than that of the present centre, the search goes on from it with the same");
        // Two equal lobes, flattened: along y the greatest deviation stays the same, which is not less.
        RoundnessInstrument x = Given.spikes(0, 500, 12, 500);
        for (int method = 1; method <= 3; method++) {
            Check.same("x by " + method, x.centre(method, false), 0);
            Check.same("y by " + method, x.centre(method, true), 0);
        }
        // Twelve steps of 2^30 away, which steps that are halved each time would not reach.
        x = Given.spikes(2, 5000, 8, -5000, 20, -5000);
        for (int i = 1; i <= 7; i++) {
            x.subtract(3, 0);
        }
        Check.same("far away by 1, x", x.centre(1, false), -12990384085L);
        Check.same("far away by 1, y", x.centre(1, true), -7500005245L);
        Check.same("far away by 3, x", x.centre(3, false), -12012292848L);
        Check.same("far away by 3, y", x.centre(3, true), -9194108172L);
    }

    private static void lastStep() {
        Doc.describes("otherwise the step is halved, and the search ends when it would be less than 1");
        // The last step of 1 still moves these.
        centreOf(1, 707107, -787183, 19, 2, 15, -1);
        centreOf(2, -88850441, -122525008, 15, 300);
        centreOf(3, -88850441, -122525008, 3, -300);
    }

    private static void width() {
        Doc.describes("The roundness by a method is the greatest deviation minus the least one about its centre");
        RoundnessInstrument x = Given.spikes(3, 900, 9, -400, 14, 250);
        for (int method = 0; method < 4; method++) {
            long greatest = Long.MIN_VALUE;
            long least = Long.MAX_VALUE;
            for (int k = 0; k < 24; k++) {
                greatest = Math.max(greatest, x.deviation(method, k));
                least = Math.min(least, x.deviation(method, k));
            }
            Check.same("by " + method, x.roundness(method), (double) (greatest - least) / 1000000);
        }
    }

    private static void centre() {
        RoundnessInstrument x = Given.spikes(3, 900, 9, -400, 14, 250);
        long[][] due = {{58561070, 19046125}, {277542940, 176776640}, {12676912, 521956664}, {153364480, -129478144}};
        Doc.says(26, "Returns the centre by a method");
        Doc.says(26, "`vertical`: true for y, false for x");
        Doc.says(26, "Returns the coordinate");
        Doc.says(26, "`method`: 0 to 3");
        for (int method = 0; method < 4; method++) {
            Check.same("x by " + method, x.centre(method, false), due[method][0]);
            Check.same("y by " + method, x.centre(method, true), due[method][1]);
        }
        Doc.says(26, "NO_VALUE");
        for (int method : new int[] {MIN, -1, 4, MAX}) {
            Check.same("x by " + method, x.centre(method, false), Given.NO_VALUE);
            Check.same("y by " + method, x.centre(method, true), Given.NO_VALUE);
        }
    }

    private static void deviation() {
        RoundnessInstrument x = Given.spikes(0, 24);
        Doc.says(27, "`method`: 0 to 3");
        long[] due = {22000000, 12000000, 12000000, 24000000};
        for (int method = 0; method < 4; method++) {
            Check.same("d(0) by " + method, x.deviation(method, 0), due[method]);
        }
        Doc.says(27, "`position`: 0 to 23");
        Check.same("d(0)", x.deviation(1, 0), 12000000);
        Check.same("d(23)", x.deviation(1, 23), -11591112);
        Doc.says(27, "Returns the deviation at this position about the centre");
        Check.same("d(12)", x.deviation(1, 12), 12000000);
        Doc.says(27, "NO_VALUE");
        for (int wrong : new int[] {MIN, -1, MAX}) {
            Check.same("method " + wrong, x.deviation(wrong, 0), Given.NO_VALUE);
            Check.same("position " + wrong, x.deviation(0, wrong), Given.NO_VALUE);
        }
        Check.same("method 4", x.deviation(4, 0), Given.NO_VALUE);
        Check.same("position 24", x.deviation(0, 24), Given.NO_VALUE);
    }

    private static void roundness() {
        RoundnessInstrument x = Given.spikes(3, 900, 9, -400, 14, 250);
        double[] due = {1217.182115, 907.494889, 1282.072133, 1083.109805};
        Doc.says(28, "Returns the roundness in the unit of the readings");
        Doc.says(28, "Returns (double) (roundness) / 1000000");
        Doc.says(28, "`method`: 0 to 3");
        for (int method = 0; method < 4; method++) {
            Check.same("by " + method, x.roundness(method), due[method]);
            Check.same("of zeros by " + method, new RoundnessInstrument().roundness(method), 0.0);
        }
        Doc.says(28, "-1.0 if method is out of range");
        for (int method : new int[] {MIN, -1, 4, MAX}) {
            Check.same("by " + method, x.roundness(method), -1.0);
        }
    }

    private static void extreme() {
        RoundnessInstrument x = Given.spikes(5, 24, 18, -24);
        Doc.says(29, "Returns the position of an extreme deviation");
        Doc.says(29, "`greatest`: true for the greatest deviation, false for the least one");
        Check.same("greatest", x.extreme(0, true), 5);
        Check.same("least", x.extreme(0, false), 18);
        Doc.says(29, "`method`: 0 to 3");
        x = Given.spikes(0, 24);
        for (int method = 0; method < 4; method++) {
            Check.same("greatest by " + method, x.extreme(method, true), 0);
            Check.same("least by " + method, x.extreme(method, false), 1);
        }
        Doc.says(29, "Returns the position, the first one of several");
        x = Given.spikes(11, 9, 23, 9, 17, -9, 5, -9);
        for (int method = 0; method < 4; method++) {
            Check.same("the first of two greatest by " + method, x.extreme(method, true), 11);
            Check.same("the first of two least by " + method, x.extreme(method, false), 5);
            Check.same("all alike, greatest", new RoundnessInstrument().extreme(method, true), 0);
            Check.same("all alike, least", new RoundnessInstrument().extreme(method, false), 0);
        }
        x = Given.spikes(23, 9, 11, 9, 22, 9, 10, 9, 5, -9, 6, -9, 17, -9, 18, -9);
        Check.same("the last but the first one", x.extreme(0, true), 10);
        Doc.says(29, "BAD_VALUE");
        for (int method : new int[] {MIN, -1, 4, MAX}) {
            Check.same("greatest by " + method, x.extreme(method, true), Given.BAD);
            Check.same("least by " + method, x.extreme(method, false), Given.BAD);
        }
    }

    private static void meanSquare() {
        Doc.says(30, "computed with doubles: beginning with 0.0, the square of (double) d(k) / 1000000 is added for k");
        RoundnessInstrument x = Given.spikes(3, 900, 9, -400, 14, 250);
        double sum = 0.0;
        for (int k = 0; k < 24; k++) {
            double d = (double) x.deviation(0, k) / 1000000;
            sum += d * d;
        }
        Check.same("three spikes", x.meanSquare(), (float) (sum / 24));
        Doc.says(30, "the result is divided by 24 and cast to float");
        Check.same("three spikes, in figures", x.meanSquare(), 41124.758f);
        x = Given.fraction(1);
        Check.same("a fraction, in figures", x.meanSquare(), 2.6524003E-4f);
        Doc.says(30, "Returns this mean square");
        Check.same("zeros", new RoundnessInstrument().meanSquare(), 0.0f);
        Given.loadSpikes(x, 0, 24, 12, 24);
        Check.same("two opposite spikes", x.meanSquare(), 48.0f);
    }

    private static void materialAt() {
        Doc.says(31, "Counts the positions whose deviations are at most a depth below the greatest one (the material");
        RoundnessInstrument x = Given.twoLobes();
        long[][] due = {{0, 2}, {66999999, 2}, {67000000, 6}, {249999999, 6}, {250000000, 10}, {250000001, 10},
            {933999999, 18}, {934000000, 22}, {999999999, 22}, {1000000000, 24}, {1000000001, 24}};
        for (long[] pair : due) {
            Check.same("at " + pair[0], x.materialAt(0, pair[0]), pair[1]);
        }
        Doc.says(31, "`method`: 0 to 3");
        RoundnessInstrument y = Given.spikes(0, 24);
        int[] counts = {1, 2, 2, 1};
        for (int method = 0; method < 4; method++) {
            Check.same("at 0 by " + method, y.materialAt(method, 0), counts[method]);
        }
        Doc.says(31, "`depth`: 0 or more, in micro units");
        Check.same("depth 0", x.materialAt(0, 0), 2);
        Check.same("depth MAX", x.materialAt(0, Long.MAX_VALUE), 24);
        y = new RoundnessInstrument();
        y.addLobes(false, 0, -1000, 0);
        y.load(3, 0);
        for (int method = 0; method < 4; method++) {
            Check.same("depth MAX below 0", y.materialAt(method, Long.MAX_VALUE), 24);
            Check.same("depth MAX - 1 below 0", y.materialAt(method, Long.MAX_VALUE - 1), 24);
            Check.same("depth 0 below 0", y.materialAt(method, 0), 24);
        }
        Doc.says(31, "Returns the number of positions");
        Check.same("all alike", new RoundnessInstrument().materialAt(1, 0), 24);
        Doc.says(31, "BAD_VALUE");
        for (int method : new int[] {MIN, -1, 4, MAX}) {
            Check.same("by " + method, x.materialAt(method, 5), Given.BAD);
        }
        Check.same("depth -1", x.materialAt(0, -1), Given.BAD);
        Check.same("depth MIN", x.materialAt(0, Long.MIN_VALUE), Given.BAD);
    }

    private static void depthFor() {
        Doc.says(32, "Returns the least depth at which at least some number of positions are counted by materialAt()");
        RoundnessInstrument x = Given.twoLobes();
        long[] depths = {0, 67000000, 250000000, 500000000, 750000000, 934000000, 1000000000};
        int[] most = {2, 6, 10, 14, 18, 22, 24};
        int count = 1;
        for (int i = 0; i < depths.length; i++) {
            for (; count <= most[i]; count++) {
                Check.same("for " + count, x.depthFor(i % 4, count), depths[i]);
            }
        }
        x = Given.spikes(3, 900, 9, -400, 14, 250);
        for (int method = 0; method < 4; method++) {
            for (int wanted = 1; wanted <= 24; wanted++) {
                long depth = x.depthFor(method, wanted);
                Check.isTrue("deep enough for " + wanted, x.materialAt(method, depth) >= wanted);
                Check.isTrue("not too deep for " + wanted, depth == 0 || x.materialAt(method, depth - 1) < wanted);
            }
        }
        Doc.says(32, "`method`: 0 to 3");
        x = Given.spikes(0, 24);
        long[] second = {20000000, 0, 0, 24000000};
        for (int method = 0; method < 4; method++) {
            Check.same("for 2 by " + method, x.depthFor(method, 2), second[method]);
        }
        Doc.says(32, "`count`: 1 to 24");
        Check.same("for 1", x.depthFor(3, 1), 0);
        Check.same("for 24", x.depthFor(3, 24), 24000000);
        Doc.says(32, "Returns the depth");
        Check.same("all alike", new RoundnessInstrument().depthFor(2, 24), 0);
        Doc.says(32, "NO_VALUE");
        for (int method : new int[] {MIN, -1, 4, MAX}) {
            Check.same("by " + method, x.depthFor(method, 1), Given.NO_VALUE);
        }
        for (int wrong : new int[] {MIN, -1, 0, 25, MAX}) {
            Check.same("for " + wrong, x.depthFor(0, wrong), Given.NO_VALUE);
        }
    }
}
