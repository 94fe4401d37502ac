/** The five examples of the document, call by call. */
public final class ExamplesTest {
    private static final int BAD = -1000001;
    private static final int NOT_NOW = -1000002;
    private static final int NONE = -1000003;

    public static void main(String[] args) {
        separation();
        readingsAndEccentricity();
        spike();
        text();
        tracesAndVBlock();
        Check.finish();
    }

    private static void separation() {
        RoundnessInstrument x = new RoundnessInstrument();
        Check.same("1 setSteps", x.setSteps(2), 0);
        Check.same("1 addLobes", x.addLobes(false, 3, 100, 0), 1);
        Check.same("1 addLobes spindle", x.addLobes(true, 2, 40, 6), 1);
        Check.same("1 simulateStep", x.simulateStep(), 24);
        Check.same("1 simulateStep again", x.simulateStep(), 48);
        Check.same("1 part", x.part(0), 100000000L);
        Check.same("1 spindle", x.spindle(0), 0);
        Check.same("1 residual", x.residual(), 0);
        Check.same("1 isBlind", x.isBlind(4), 1);
        Check.same("1 load", x.load(1, 0), 1);
        Check.same("1 harmonic", x.harmonic(3, false), 99851043L);
        Check.same("1 strength", x.strength(2), 0);
        Check.same("1 dominant", x.dominant(1), 3);
        Check.same("1 roundness", x.roundness(0), 200.0);
        Check.same("1 centre", x.centre(1, false), 0);
        Check.same("1 extreme", x.extreme(0, true), 0);
    }

    private static void readingsAndEccentricity() {
        RoundnessInstrument x = new RoundnessInstrument();
        Check.same("2 read", x.read(10), 1);
        Check.same("2 read again", x.read(-20), 2);
        Check.same("2 progress 1", x.progress(1), 2);
        Check.same("2 progress 3", x.progress(3), 2);
        Check.same("2 reading", x.reading(0, 1), -20);
        Check.same("2 reading to come", x.reading(0, 2), NONE);
        Check.same("2 simulateStep begun", x.simulateStep(), NOT_NOW);
        Check.same("2 removeReadings", x.removeReadings(2), 0);
        Check.same("2 setEccentricity", x.setEccentricity(100, 0), 1);
        Check.same("2 simulateStep", x.simulateStep(), 24);
        Check.same("2 load", x.load(0, 0), 1);
        Check.same("2 centre", x.centre(0, false), 99857983L);
        Check.same("2 removeEccentricity", x.removeEccentricity(), 1);
        Check.same("2 profile", x.profile(0), 475351L);
        Check.same("2 meanSquare", x.meanSquare(), 0.080358565f);
        Check.same("2 undo", x.undo(), 1);
    }

    private static void spike() {
        RoundnessInstrument x = new RoundnessInstrument();
        Check.same("3 setTrue", x.setTrue(false, 5, 900), 0);
        Check.same("3 simulateStep", x.simulateStep(), 24);
        Check.same("3 despike", x.despike(0, 400), 3);
        Check.same("3 reading", x.reading(0, 5), 0);
        Check.same("3 load", x.load(3, 9), 1);
        Check.same("3 profile", x.profile(5), 900000000L);
        Check.same("3 rotate", x.rotate(3), 1);
        Check.same("3 profile rotated", x.profile(8), 900000000L);
        Check.same("3 keepLobes", x.keepLobes(2, 12), 1);
        Check.same("3 roundness", x.roundness(1), 897.444042);
        Check.same("3 deviation", x.deviation(2, 8), 412499787L);
        Check.same("3 subtract", x.subtract(3, 0), 1);
        Check.same("3 setSteps", x.setSteps(5), BAD);
        Check.same("3 despike unfinished", x.despike(1, 0), BAD);
        Check.same("3 setTrue position", x.setTrue(true, 24, 0), BAD);
        Check.same("3 roundness method", x.roundness(4), -1.0);
    }

    private static void text() {
        RoundnessInstrument x = new RoundnessInstrument();
        Check.same("4 type p", x.type('p'), 1);
        Check.same("4 type 3", x.type('3'), 2);
        Check.same("4 type a", x.type('a'), 3);
        Check.same("4 type 9", x.type('9'), 4);
        Check.same("4 type ;", x.type(';'), 5);
        Check.same("4 type e", x.type('e'), 6);
        Check.same("4 type 1", x.type('1'), 7);
        Check.same("4 type ,", x.type(','), 8);
        Check.same("4 readText too early", x.readText(), -108);
        Check.same("4 type -", x.type('-'), 9);
        Check.same("4 type 2", x.type('2'), 10);
        Check.same("4 readText", x.readText(), 2);
        Check.same("4 load", x.load(3, 0), 1);
        Check.same("4 profile", x.profile(0), 9000000L);
        Check.same("4 clearText", x.clearText(), 10);
        Check.same("4 readText empty", x.readText(), -100);
    }

    private static void tracesAndVBlock() {
        RoundnessInstrument x = new RoundnessInstrument();
        Check.same("5 addLobes", x.addLobes(false, 2, 500, 0), 1);
        Check.same("5 load", x.load(3, 0), 1);
        Check.same("5 storeTrace", x.storeTrace(0), 0);
        Check.same("5 rotate", x.rotate(2), 1);
        Check.same("5 storeTrace 50", x.storeTrace(50), 1);
        Check.same("5 storeTrace 50 again", x.storeTrace(50), BAD);
        Check.same("5 bestRotation", x.bestRotation(0, 1), 2);
        Check.same("5 difference", x.difference(0, 1, 2), 0);
        Check.same("5 axis", x.axis(25, true), 0);
        Check.same("5 cylindricity", x.cylindricity(), 1000.0);
        Check.same("5 taper", x.taper(), 0);
        Check.same("5 recall", x.recall(0), 1);
        Check.same("5 vBlock", x.vBlock(2), 1);
        Check.same("5 isBlindInVBlock", x.isBlindInVBlock(2, 5), 0);
        Check.same("5 addRule", x.addRule(2, 4, 0, 100), 0);
        Check.same("5 violated", x.violated(), 1);
    }
}
