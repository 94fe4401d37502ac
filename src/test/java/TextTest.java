/** Promises 47 to 49: texts. */
public final class TextTest {
    public static void main(String[] args) {
        type();
        clearText();
        faults();
        numbersOutOfRange();
        numbersOfFiveDigits();
        oddCharacters();
        lobes();
        eccentricity();
        steps();
        orderOfItems();
        everythingBecomesZero();
        faultsChangeNothing();
        theTextStays();
        longestText();
        Check.finish();
    }

    private static int answer(String text) {
        RoundnessInstrument x = new RoundnessInstrument();
        Given.type(x, text);
        return x.readText();
    }

    private static void fault(String text, int due) {
        Check.same("readText of \"" + text + "\"", answer(text), -100 - due);
    }

    private static void items(String text, int due) {
        Check.same("readText of \"" + text + "\"", answer(text), due);
    }

    private static void type() {
        RoundnessInstrument x = new RoundnessInstrument();
        char[] any = {'p', ' ', (char) 0, (char) 233, (char) 65535, '\n'};
        for (int i = 1; i <= 200; i++) {
            Check.same("type " + i, x.type(any[i % any.length]), i);
        }
        Check.same("type 201", x.type('p'), Given.FULL);
        Check.same("type 202", x.type('p'), Given.FULL);
        Check.same("it had 200", x.clearText(), 200);
        Check.same("type again", x.type('n'), 1);
    }

    private static void clearText() {
        RoundnessInstrument x = new RoundnessInstrument();
        Check.same("empty", x.clearText(), 0);
        Given.type(x, "n2");
        Check.same("two", x.clearText(), 2);
        Check.same("empty again", x.readText(), -100);
        Given.type(x, "n3");
        Check.same("only the new text", x.readText(), 1);
        Check.same("n3", x.progress(0), 3);
    }

    private static void faults() {
        fault("", 0);
        fault("x", 0);
        fault("P3a9", 0);
        fault(" p3a9", 0);
        fault(";", 0);
        fault("3", 0);
        fault("p", 1);
        fault("pa", 1);
        fault("p-", 2);
        fault("p--1", 2);
        fault("p+1", 1);
        fault("p3", 2);
        fault("p3 a9", 2);
        fault("p3f9", 2);
        fault("p3a", 3);
        fault("p3a-", 4);
        fault("p3af", 3);
        fault("p3a9f", 5);
        fault("p3a9f-", 6);
        fault("p3a9f1f1", 6);
        fault("p3a9 ", 4);
        fault("p3a9a9", 4);
        fault("p3a9,", 4);
        fault("p3a9;", 5);
        fault("p3a9;;", 5);
        fault("p3a9;x", 5);
        fault("e", 1);
        fault("e,", 1);
        fault("e1", 2);
        fault("e1;", 2);
        fault("e1,", 3);
        fault("e1,,", 3);
        fault("e1,2,", 4);
        fault("e1,2f3", 4);
        fault("n", 1);
        fault("n;", 1);
        fault("n2,", 2);
        fault("n2a", 2);
        fault("n2;n3;", 6);
        fault("n2;n3;s", 7);
    }

    private static void numbersOutOfRange() {
        items("p0a0", 1);
        items("s12a-1000f23", 1);
        items("p12a1000f0", 1);
        items("p-0a-0f-0", 1);
        items("e-5000,5000", 1);
        items("e5000,-5000", 1);
        fault("p13a5", 1);
        fault("p-1a5", 1);
        fault("p3a1001", 3);
        fault("p3a-1001", 3);
        fault("p3a1f24", 5);
        fault("p3a1f-1", 5);
        fault("s13x", 1);
        fault("s13", 1);
        fault("e5001,0", 1);
        fault("e-5001,0", 1);
        fault("e0,5001", 3);
        fault("e0,-5001", 3);
        fault("n0", 1);
        fault("n1", 1);
        fault("n5", 1);
        fault("n7", 1);
        fault("n9", 1);
        fault("n10", 1);
        fault("n11", 1);
        fault("n13", 1);
        fault("n24", 1);
        fault("n-2", 1);
        fault("n2;n5;x", 4);
        fault("p3a9;e1,9999x", 8);
    }

    private static void numbersOfFiveDigits() {
        items("p00012a-00005f00023", 1);
        items("e-00012,01000", 1);
        items("n00006", 1);
        fault("p000012a5", 6);
        fault("p-000012a5", 1);
        fault("p1a-000012", 9);
        fault("p1a000012", 8);
        fault("p1a1f000012", 10);
        fault("e000012,1", 6);
        fault("e1,000012", 8);
        fault("n000026", 6);
        fault("n000006", 1);
        fault("n99999", 1);
        fault("n999999", 1);
        fault("p-99999999999999", 1);
    }

    private static void oddCharacters() {
        fault("p3a9" + (char) 0, 4);
        fault("p" + (char) 0x663 + "a9", 1);
        fault("p3" + (char) 0x161 + "9", 2);
        fault("" + (char) 65535, 0);
        fault("p3a9" + (char) 65535, 4);
    }

    private static void lobes() {
        RoundnessInstrument x = new RoundnessInstrument();
        Given.type(x, "p12a-5;s6a7f1;p12a-5f1");
        Check.same("three items", x.readText(), 3);
        x.load(3, 0);
        Check.profile("part", x, -10000000, 9000000);
        x.load(4, 0);
        Check.profile("spindle", x, 6000000, -2000000, -7000000, 1000000);
    }

    private static void eccentricity() {
        RoundnessInstrument x = new RoundnessInstrument();
        Given.type(x, "e12,-34");
        Check.same("one item", x.readText(), 1);
        Check.same("the eccentricity is set", x.setEccentricity(12, -34), 0);
        x.simulateStep();
        Check.same("x", x.reading(0, 0), 12);
        Check.same("y", x.reading(0, 18), 34);
    }

    private static void steps() {
        for (int steps : Given.STEP_COUNTS) {
            RoundnessInstrument x = Given.measured(4, 0, 0, 1);
            Given.type(x, "n" + steps);
            Check.same("n" + steps, x.readText(), 1);
            Check.same("P is " + steps, x.progress(0), steps);
            Check.same("no readings", x.progress(1), 0);
        }
        RoundnessInstrument x = Given.measured(6, 0, 0, 1);
        Given.type(x, "e1,1");
        x.readText();
        Check.same("P stays", x.progress(0), 6);
        Check.same("readings stay", x.progress(1), 144);
    }

    private static void orderOfItems() {
        RoundnessInstrument x = new RoundnessInstrument();
        Given.type(x, "n3;e1,1;n8;e2,2;n2");
        Check.same("five items", x.readText(), 5);
        Check.same("the last number of steps", x.progress(0), 2);
        Check.same("the last eccentricity", x.setEccentricity(2, 2), 0);
        x = new RoundnessInstrument();
        Given.type(x, "p0a1000;p0a1000;p0a1000;p0a1000;p0a1000;p0a1000;p0a-1");
        Check.same("seven items", x.readText(), 7);
        x.load(3, 0);
        Check.profile("limited after each item", x, 4999000000L);
    }

    private static void everythingBecomesZero() {
        RoundnessInstrument x = new RoundnessInstrument();
        x.setTrue(false, 3, 30);
        x.setTrue(true, 4, 40);
        x.setEccentricity(5, 6);
        Given.type(x, "n12");
        Check.same("one item", x.readText(), 1);
        Check.same("part", x.setTrue(false, 3, 0), 0);
        Check.same("spindle", x.setTrue(true, 4, 0), 0);
        Check.same("eccentricity", x.setEccentricity(0, 0), 0);
    }

    private static void faultsChangeNothing() {
        RoundnessInstrument x = Given.measured(4, 0, 0, 1);
        x.setTrue(false, 3, 30);
        x.setTrue(true, 4, 40);
        x.setEccentricity(5, 6);
        Given.type(x, "n12;p0a9;s0a9;e1,1;n5");
        Check.same("a fault at the end", x.readText(), -120);
        Check.same("P", x.progress(0), 4);
        Check.same("readings", x.progress(1), 96);
        Check.same("eccentricity", x.setEccentricity(5, 6), 0);
        Check.same("part", x.setTrue(false, 3, 30), 30);
        Check.same("spindle", x.setTrue(true, 4, 40), 40);
        Check.same("the text stays", x.clearText(), 21);
    }

    private static void theTextStays() {
        RoundnessInstrument x = new RoundnessInstrument();
        Given.type(x, "p0a9");
        Check.same("read", x.readText(), 1);
        Check.same("read again", x.readText(), 1);
        x.load(3, 0);
        Check.profile("not added twice", x, 9000000);
        Given.type(x, ";p0a1");
        Check.same("read more", x.readText(), 2);
        x.load(3, 0);
        Check.profile("read from the start", x, 10000000);
        Check.same("clear", x.clearText(), 9);
    }

    private static void longestText() {
        StringBuilder text = new StringBuilder("n2");
        for (int i = 1; i < 67; i++) {
            text.append(";n").append(i == 66 ? 8 : 3);
        }
        RoundnessInstrument x = new RoundnessInstrument();
        Given.type(x, text.toString());
        Check.same("67 items", x.readText(), 67);
        Check.same("the last one counts", x.progress(0), 8);
        items("e-0,0;" + text.substring(0, 194), 66);
        fault(text.substring(0, 199) + 'x', 199);
        fault("e1,1" + ";e1,1".repeat(39) + ";", 200);
    }
}
