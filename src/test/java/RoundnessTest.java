/** Promises 26 to 32: roundness about the four reference circles. */
public final class RoundnessTest {
    public static void main(String[] args) {
        circlesOf("one spike", new int[] {0, 24}, new long[][] {
            {2000000, 0, 23931852, 0, 1, 517638},
            {12000000, 0, 23591112, 0, 1, 3105828},
            {12000000, 1116416, 23880061, 0, 1, 2027453},
            {0, 0, 24000000, 0, 1, 0}});
        circlesOf("three spikes", new int[] {3, 900, 9, -400, 14, 250}, new long[][] {
            {58561070, 19046125, 1217182115, 3, 9, -3240429},
            {277542940, 176776640, 907494889, 3, 2, -98919766},
            {12676912, 521956664, 1282072133, 3, 9, -500890486},
            {153364480, -129478144, 1083109805, 3, 9, 164759948}});
        noEccentricity();
        longSearch();
        firstStep();
        circlesFollowTheProfile();
        meanSquare();
        materialAt();
        depthFor();
        wrongArguments();
        Check.finish();
    }

    /** Due are, for each method: x, y, the roundness in micro units, both extremes, the deviation at 7. */
    private static void circlesOf(String what, int[] spikes, long[][] due) {
        RoundnessInstrument x = Given.spikes(spikes);
        for (int method = 0; method < 4; method++) {
            String by = what + " by " + method + ": ";
            Check.same(by + "x", x.centre(method, false), due[method][0]);
            Check.same(by + "y", x.centre(method, true), due[method][1]);
            Check.same(by + "roundness", x.roundness(method), (double) due[method][2] / 1000000);
            Check.same(by + "greatest", x.extreme(method, true), due[method][3]);
            Check.same(by + "least", x.extreme(method, false), due[method][4]);
            Check.same(by + "deviation", x.deviation(method, 7), due[method][5]);
        }
    }

    private static void noEccentricity() {
        RoundnessInstrument x = Given.twoLobes();
        for (int method = 0; method < 4; method++) {
            Check.same("x by " + method, x.centre(method, false), 0);
            Check.same("y by " + method, x.centre(method, true), 0);
            Check.same("roundness by " + method, x.roundness(method), 1000.0);
            Check.same("greatest by " + method, x.extreme(method, true), 0);
            Check.same("least by " + method, x.extreme(method, false), 6);
            Check.same("deviation(0) by " + method, x.deviation(method, 0), 500000000);
            Check.same("deviation(23) by " + method, x.deviation(method, 23), 433000000);
        }
    }

    /**
     * A search that takes 878930 rounds, because it zigzags between two nearly flat slopes. It is no longer than that
     * because LANGUAGE.md calls a bound of a million fine where the document tells none.
     */
    private static void longSearch() {
        RoundnessInstrument x = Given.spikes(0, 900, 14, 900);
        x.keepLobes(5, 9);
        Check.same("x of the long search", x.centre(1, false), 30144402);
        Check.same("y of the long search", x.centre(1, true), -112500104);
        Check.same("roundness of the long search", x.roundness(1), 649.5188);
    }

    /** Searches that would end elsewhere if they began with another step than 2^30. */
    private static void firstStep() {
        RoundnessInstrument x = Given.spikes(2, 5000, 8, -4000, 20, -5000);
        Check.same("inscribed x", x.centre(3, false), -1174475132);
        Check.same("inscribed y", x.centre(3, true), -100733312);
        Check.same("inscribed roundness", x.roundness(3), 10567.491483);
        x = Given.spikes(8, 3000, 6, -3000, 20, 4000);
        Check.same("circumscribed x", x.centre(2, false), 1174475140);
        Check.same("circumscribed y", x.centre(2, true), 100733316);
        Check.same("circumscribed roundness", x.roundness(2), 6600.733317);
    }

    private static void circlesFollowTheProfile() {
        RoundnessInstrument x = Given.spikes(0, 24);
        Check.same("before", x.centre(1, false), 12000000);
        x.rotate(12);
        Check.same("rotated", x.centre(1, false), -12000000);
        Check.same("rotated, by 3", x.extreme(3, true), 12);
        x.undo();
        Check.same("undone", x.centre(1, false), 12000000);
        x.redo();
        Check.same("redone", x.centre(1, false), -12000000);
        Given.loadSpikes(x, 6, 24);
        Check.same("loaded", x.centre(1, false), 0);
        Check.same("loaded, y", x.centre(1, true), 12000000);
    }

    private static void meanSquare() {
        Check.same("three spikes", Given.spikes(3, 900, 9, -400, 14, 250).meanSquare(), (float) 41124.756400901046);
        RoundnessInstrument x = new RoundnessInstrument();
        x.addLobes(false, 12, 3, 0);
        x.load(3, 0);
        Check.same("alternating", x.meanSquare(), 9.0f);
        x.keepLobes(0, 0);
        Check.same("zeros", x.meanSquare(), 0.0f);
    }

    private static void materialAt() {
        RoundnessInstrument x = Given.twoLobes();
        long[][] due = {{0, 2}, {66999999, 2}, {67000000, 6}, {249999999, 6}, {250000000, 10}, {500000000, 14},
            {750000000, 18}, {933999999, 18}, {934000000, 22}, {999999999, 22}, {1000000000, 24},
            {Long.MAX_VALUE, 24}};
        for (long[] pair : due) {
            for (int method = 0; method < 4; method++) {
                Check.same("materialAt(" + method + ", " + pair[0] + ")", x.materialAt(method, pair[0]), pair[1]);
            }
        }
        x = new RoundnessInstrument();
        x.addLobes(false, 0, -1000, 0);
        x.load(3, 0);
        Check.same("all below 0", x.materialAt(0, Long.MAX_VALUE), 24);
        Check.same("all alike", x.materialAt(0, 0), 24);
    }

    private static void depthFor() {
        RoundnessInstrument x = Given.twoLobes();
        long[] depths = {0, 67000000, 250000000, 500000000, 750000000, 934000000, 1000000000};
        int[] counts = {2, 6, 10, 14, 18, 22, 24};
        int least = 1;
        for (int i = 0; i < counts.length; i++) {
            for (int count = least; count <= counts[i]; count++) {
                Check.same("depthFor(" + count + ")", x.depthFor(i % 4, count), depths[i]);
            }
            least = counts[i] + 1;
        }
        Check.same("all alike", new RoundnessInstrument().depthFor(3, 24), 0);
        x = Given.spikes(0, 24);
        Check.same("one above all others", x.depthFor(3, 1), 0);
        Check.same("the others", x.depthFor(3, 2), 24000000);
    }

    private static void wrongArguments() {
        RoundnessInstrument x = Given.twoLobes();
        for (int method : new int[] {-1, 4, Integer.MIN_VALUE, Integer.MAX_VALUE}) {
            Check.same("centre by " + method, x.centre(method, true), Given.NO_VALUE);
            Check.same("deviation by " + method, x.deviation(method, 0), Given.NO_VALUE);
            Check.same("roundness by " + method, x.roundness(method), -1.0);
            Check.same("extreme by " + method, x.extreme(method, true), Given.BAD);
            Check.same("materialAt by " + method, x.materialAt(method, 0), Given.BAD);
            Check.same("depthFor by " + method, x.depthFor(method, 1), Given.NO_VALUE);
        }
        Check.same("deviation(-1)", x.deviation(0, -1), Given.NO_VALUE);
        Check.same("deviation(24)", x.deviation(0, 24), Given.NO_VALUE);
        Check.same("materialAt(-1)", x.materialAt(0, -1), Given.BAD);
        Check.same("materialAt(MIN)", x.materialAt(0, Long.MIN_VALUE), Given.BAD);
        Check.same("depthFor(0)", x.depthFor(0, 0), Given.NO_VALUE);
        Check.same("depthFor(25)", x.depthFor(0, 25), Given.NO_VALUE);
        Check.same("depthFor(MIN)", x.depthFor(0, Integer.MIN_VALUE), Given.NO_VALUE);
    }
}
