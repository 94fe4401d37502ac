/** Promises 47 to 49 and what the description says about texts, sentence by sentence. */
final class TextEdges {
    private TextEdges() {
    }

    static void run() {
        length();
        grammar();
        items();
        numbers();
        ranges();
        faults();
        faultsOfNumbers();
        type();
        clearText();
        readText();
        effects();
        steps();
        faultsChangeNothing();
    }

    /** What readText() answers to a text that is typed into a new object. */
    private static int answer(String text) {
        RoundnessInstrument x = new RoundnessInstrument();
        Given.type(x, text);
        return x.readText();
    }

    private static void allowed(String text, int items) {
        Check.same("readText() of \"" + text + "\"", answer(text), items);
    }

    private static void fault(String text, int index) {
        Check.same("readText() of \"" + text + "\"", answer(text), -100 - index);
    }

    private static void length() {
        Doc.describes("There is a text of at most 200 characters, empty at first");
        RoundnessInstrument x = new RoundnessInstrument();
        Check.same("empty at first", x.readText(), -100);
        Check.same("its length", x.clearText(), 0);
        String longest = "e10,20" + ";p3a9".repeat(38) + ";n12";
        Check.same("200 characters", longest.length(), 200);
        Given.type(x, longest);
        Check.same("no 201st", x.type('x'), Given.FULL);
        Check.same("all 200 are read", x.readText(), 40);
        Check.same("the last one too", x.progress(0), 12);
        Doc.describes("A text describes a simulation");
        x.load(3, 0);
        Check.same("the part has three lobes, added 38 times", x.profile(0), 342000000);
    }

    private static void grammar() {
        Doc.describes("it has this grammar, without blanks:");
        fault(" p3a9", 0);
        fault("p 3a9", 1);
        fault("p3 a9", 2);
        fault("p3a9 ", 4);
        fault("p3a9; e1,2", 5);
        fault("e1, 2", 3);
        fault("n 2", 1);
        fault("p3a- 9", 4);
        Doc.describes("text = item { \";\" item }");
        allowed("n2", 1);
        allowed("n2;n3", 2);
        allowed("n2;p3a9;s4a5f6;e7,8", 4);
        fault("", 0);
        fault(";", 0);
        fault(";n2", 0);
        fault("n2;", 3);
        fault("n2;;n3", 3);
        fault("n2n3", 2);
        fault("n2,n3", 2);
        fault("e1,2e3,4", 4);
        fault("p3a9p3a9", 4);
    }

    private static void items() {
        Doc.describes("item = ( \"p\" | \"s\" ) number \"a\" number [ \"f\" number ] | \"e\" number \",\" number");
        allowed("p3a9", 1);
        allowed("s3a9", 1);
        allowed("p3a9f5", 1);
        allowed("s3a9f5", 1);
        allowed("e1,2", 1);
        allowed("n2", 1);
        for (char first = 0; first < 256; first++) {
            if (first != 'p' && first != 's' && first != 'e' && first != 'n') {
                fault(first + "3a9", 0);
                fault("n2;" + first, 3);
            }
        }
        fault("p", 1);
        fault("pa9", 1);
        fault("p3", 2);
        fault("p3,9", 2);
        fault("p3f9", 2);
        fault("p3a", 3);
        fault("p3aa9", 3);
        fault("p3a9f", 5);
        fault("p3a9ff", 5);
        fault("p3a9a9", 4);
        fault("p3a9f5f6", 6);
        fault("p3a9f5a6", 6);
        fault("e", 1);
        fault("e,2", 1);
        fault("e1", 2);
        fault("e1a2", 2);
        fault("e1;", 2);
        fault("e1,", 3);
        fault("e1,2,3", 4);
        fault("e1,2f3", 4);
        fault("n", 1);
        fault("na", 1);
        fault("n2a", 2);
        fault("n2f", 2);
    }

    private static void numbers() {
        Doc.describes("number = [ \"-\" ] digit { digit }");
        allowed("p-0a-9f-0", 1);
        allowed("e-1,-2", 1);
        allowed("p00a000f0000", 1);
        fault("p--0a9", 2);
        fault("p+3a9", 1);
        fault("p3a-", 4);
        fault("p3a--9", 4);
        fault("p3a9-", 4);
        fault("e1-,2", 2);
        fault("e1,2-3", 4);
        fault("e.5,2", 1);
        fault("e1,-", 4);
        fault("e1,-a", 4);
        fault("p3a" + (char) 0x661, 3);
        fault("p3a9" + (char) 0x661, 4);
        fault("p3a/", 3);
        fault("p3a:", 3);
        Doc.describes("A number ends before the first character that is not a digit, or after 5 digits");
        allowed("p00003a00009f00005", 1);
        allowed("p3a-00009", 1);
        allowed("e-05000,05000", 1);
        allowed("n00012", 1);
        fault("p000003a9", 6);
        fault("p3a000009", 8);
        fault("p3a-000009", 9);
        fault("p3a9f000005", 10);
        fault("e000001,2", 6);
        fault("e1,-000002", 9);
        fault("n000026", 6);
    }

    private static void ranges() {
        Doc.describes("\"p\" and \"s\" add lobes to the true profile of the part or the spindle: the number of lobes");
        for (char kind : new char[] {'p', 's'}) {
            allowed(kind + "0a9", 1);
            allowed(kind + "12a9", 1);
            fault(kind + "-1a9", 1);
            fault(kind + "13a9", 1);
            allowed(kind + "3a-1000", 1);
            allowed(kind + "3a1000", 1);
            fault(kind + "3a-1001", 3);
            fault(kind + "3a1001", 3);
            allowed(kind + "3a9f0", 1);
            allowed(kind + "3a9f23", 1);
            fault(kind + "3a9f-1", 5);
            fault(kind + "3a9f24", 5);
        }
        RoundnessInstrument x = new RoundnessInstrument();
        Given.type(x, "p6a80f1;s6a70");
        Check.same("two items", x.readText(), 2);
        x.load(3, 0);
        Check.profile("part, phase 1", x, 77000000, -21000000, -78000000, 20000000);
        x.load(4, 0);
        Check.profile("spindle, no phase", x, 70000000, 0, -70000000, 0);
        Doc.describes("\"e\" sets the eccentricity (each number -5000 to 5000), \"n\" the number of steps (2, 3, 4,");
        allowed("e-5000,5000", 1);
        allowed("e5000,-5000", 1);
        fault("e-5001,0", 1);
        fault("e5001,0", 1);
        fault("e0,-5001", 3);
        fault("e0,5001", 3);
        for (int steps = -12; steps <= 25; steps++) {
            if (steps == 2 || steps == 3 || steps == 4 || steps == 6 || steps == 8 || steps == 12) {
                allowed("n" + steps, 1);
            } else {
                fault("n" + steps, 1);
            }
        }
    }

    private static void faults() {
        Doc.describes("The text is read from left to right");
        fault("p3x;q", 2);
        fault("p13x", 1);
        fault("p3a9;n5;e1", 6);
        fault("n5;x", 1);
        RoundnessInstrument x = new RoundnessInstrument();
        Given.type(x, "e1,2;n3;e3,4;n6");
        Check.same("four items", x.readText(), 4);
        Check.same("the last eccentricity", x.setEccentricity(3, 4), 0);
        Check.same("the last number of steps", x.progress(0), 6);
        Doc.describes("The fault of a text is the index, from 0, of the first character that is not allowed at its");
        fault("x", 0);
        fault("n2;n3;n4;x", 9);
        fault("n2;n3;n4;", 9);
        fault("n2;n3;n4;e", 10);
        fault("n2;n3;n4;e-", 11);
        fault("n2;n3;n4;e-5", 12);
        fault("n2;n3;n4;e-5,", 13);
        String long199 = "e10,20" + ";p3a9".repeat(38) + ";n2";
        fault(long199 + "x", 199);
        fault(long199 + ";", 200);
        fault(long199 + "5", 198);
    }

    private static void faultsOfNumbers() {
        Doc.describes("a number that is out of its range is a fault at its first character");
        fault("p13", 1);
        fault("p13a9", 1);
        fault("p-1", 1);
        fault("p99999a9", 1);
        fault("p999999a9", 1);
        fault("p-99999", 1);
        fault("s3a-1001f5", 3);
        fault("s3a-99999", 3);
        fault("s3a9f-1", 5);
        fault("s3a9f99999", 5);
        fault("e-5001", 1);
        fault("e1,-5001", 3);
        fault("e00000,99999", 7);
        fault("n1", 1);
        fault("n1;n2", 1);
        fault("n-2", 1);
        fault("n00005", 1);
        fault("n000002", 1);
        fault("n2;n3;n5", 7);
    }

    private static void type() {
        Doc.says(47, "Appends a character to the text");
        RoundnessInstrument x = new RoundnessInstrument();
        Given.type(x, "n");
        Check.same("n", x.readText(), -101);
        Given.type(x, "1");
        Check.same("n1", x.readText(), -101);
        Given.type(x, "2");
        Check.same("n12", x.readText(), 1);
        Doc.says(47, "`character`: any character");
        x = new RoundnessInstrument();
        char[] any = {(char) 0, ' ', '\n', (char) 127, (char) 128, (char) 255, (char) 256, (char) 65535, '-'};
        for (int i = 0; i < any.length; i++) {
            Check.same("character " + (int) any[i], x.type(any[i]), i + 1);
        }
        Doc.says(47, "Returns the length of the text then");
        Check.same("ten", x.type('p'), 10);
        for (int length = 11; length <= 200; length++) {
            Check.same("type", x.type('p'), length);
        }
        Doc.says(47, "FULL if it has 200 characters");
        Check.same("a 201st", x.type('p'), Given.FULL);
        Check.same("a 201st again", x.type(';'), Given.FULL);
        Check.same("200 stay", x.clearText(), 200);
        Check.same("there is room again", x.type('n'), 1);
    }

    private static void clearText() {
        Doc.says(48, "Empties the text");
        RoundnessInstrument x = new RoundnessInstrument();
        Given.type(x, "n8;n6");
        x.clearText();
        Check.same("empty", x.readText(), -100);
        Given.type(x, "n3");
        Check.same("only the new one", x.readText(), 1);
        Check.same("n3", x.progress(0), 3);
        Doc.says(48, "Returns the length that it had");
        Check.same("two", x.clearText(), 2);
        Check.same("none", x.clearText(), 0);
        Check.same("none of a new object", new RoundnessInstrument().clearText(), 0);
    }

    private static void readText() {
        Doc.says(49, "Reads the text, which stays");
        RoundnessInstrument x = new RoundnessInstrument();
        Given.type(x, "p0a7");
        Check.same("read", x.readText(), 1);
        Check.same("read again", x.readText(), 1);
        Check.same("its length", x.clearText(), 4);
        Given.type(x, "p0a7;");
        Check.same("a fault", x.readText(), -105);
        Check.same("it stays with its fault", x.readText(), -105);
        Given.type(x, "n2");
        Check.same("the rest is appended", x.readText(), 2);
        Doc.says(49, "Returns the number of items");
        allowed("n2", 1);
        allowed("n2" + ";n2".repeat(65), 66);
        allowed("n2" + ";n3".repeat(65) + ";", -100 - 198);
        allowed("n2" + ";n3".repeat(66), 67);
        Doc.says(49, "-100 minus the fault if it has one (nothing changes then)");
        fault("", 0);
        fault("x", 0);
        fault("n", 1);
        fault("n2;", 3);
        fault(";".repeat(200), 0);
    }

    private static void effects() {
        Doc.says(49, "If it has no fault, both true profiles and the eccentricity become 0, and its items take effect");
        RoundnessInstrument x = new RoundnessInstrument();
        for (int k = 0; k < 24; k++) {
            x.setTrue(false, k, 30 + k);
            x.setTrue(true, k, -40 - k);
        }
        x.setEccentricity(5, 6);
        x.simulateStep();
        Given.type(x, "p12a5");
        x.readText();
        for (int k = 0; k < 24; k++) {
            Check.same("p(" + k + ")", x.setTrue(false, k, 0), k % 2 == 0 ? 5 : -5);
            Check.same("q(" + k + ")", x.setTrue(true, k, 0), 0);
        }
        Check.same("eccentricity", x.setEccentricity(0, 0), 0);
        Check.same("readings stay without \"n\"", x.progress(1), 24);
        Check.same("steps stay without \"n\"", x.progress(0), 4);
        x = new RoundnessInstrument();
        Given.type(x, "p0a1000" + ";p0a1000".repeat(5) + ";p0a-1;s0a-1000" + ";s0a-1000".repeat(5) + ";s0a1");
        Check.same("14 items", x.readText(), 14);
        Check.same("limited after each item", x.setTrue(false, 9, 0), 4999);
        Check.same("limited after each item, spindle", x.setTrue(true, 9, 0), -4999);
        x = new RoundnessInstrument();
        Given.type(x, "e1,2;p3a9f7;e-3,-4");
        RoundnessInstrument y = new RoundnessInstrument();
        y.addLobes(false, 3, 9, 7);
        x.readText();
        for (int k = 0; k < 24; k++) {
            Check.same("as addLobes(), " + k, x.setTrue(false, k, 0), y.setTrue(false, k, 0));
        }
        Check.same("as setEccentricity()", x.setEccentricity(-3, -4), 0);
    }

    private static void steps() {
        for (int steps : Given.STEP_COUNTS) {
            RoundnessInstrument x = Given.measured(steps, 0, 0, 1);
            x.load(0, 0);
            x.storeTrace(5);
            Given.type(x, "n" + steps);
            Check.same("n" + steps, x.readText(), 1);
            Check.same("P", x.progress(0), steps);
            Check.same("all readings are removed", x.progress(1), 0);
            Check.same("not recorded", x.reading(0, 0), Given.NONE);
            Check.same("the present profile stays", x.profile(0), 1000000);
            Check.same("traces stay", x.traceValue(0, 0), 5);
        }
    }

    private static void faultsChangeNothing() {
        for (String text : new String[] {"n12;p0a9;s0a9;e1,1;n5", "n12;p0a9;s0a9;e1,1;", "n12;p0a9;s0a9;e1,1x"}) {
            RoundnessInstrument x = new RoundnessInstrument();
            x.setTrue(false, 3, 30);
            x.setTrue(true, 4, 40);
            x.setEccentricity(5, 6);
            x.read(7);
            Given.type(x, text);
            Check.isTrue("a fault", x.readText() <= -100);
            Check.same("P", x.progress(0), 4);
            Check.same("readings", x.progress(1), 1);
            Check.same("eccentricity", x.setEccentricity(5, 6), 0);
            for (int k = 0; k < 24; k++) {
                Check.same("p(" + k + ")", x.setTrue(false, k, 0), k == 3 ? 30 : 0);
                Check.same("q(" + k + ")", x.setTrue(true, k, 0), k == 4 ? 40 : 0);
            }
            Check.same("the text stays", x.clearText(), text.length());
        }
    }
}
