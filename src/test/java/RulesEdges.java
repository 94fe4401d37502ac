/** Promises 43 to 46 and what the description says about rules, sentence by sentence. */
final class RulesEdges {
    private static final int MIN = Integer.MIN_VALUE;
    private static final int MAX = Integer.MAX_VALUE;

    private RulesEdges() {
    }

    static void run() {
        description();
        addRule();
        addRuleErrors();
        clearRules();
        ruleValue();
        violated();
    }

    /** The present profile alternates between amplitude and -amplitude, in whole units. */
    private static RoundnessInstrument alternating(int amplitude) {
        RoundnessInstrument x = new RoundnessInstrument();
        x.addLobes(false, 12, amplitude, 0);
        x.load(3, 0);
        return x;
    }

    private static void description() {
        Doc.describes("There are up to 8 rules, numbered from 0 in order of addition");
        RoundnessInstrument x = alternating(10);
        for (int rule = 0; rule < 8; rule++) {
            Check.same("rule " + rule, x.addRule(rule, rule == 7 ? 12 : 11, 0, 0), rule);
        }
        Check.same("a ninth", x.addRule(0, 12, 0, 0), Given.FULL);
        Check.same("the eighth", x.ruleValue(7), 20000000);
        Check.same("the seventh", x.ruleValue(6), 0);
        Check.same("no ninth", x.ruleValue(8), Given.NO_VALUE);
        Doc.describes("A rule has a range of lobes, a method and a limit in the unit of the readings");
        x = Given.spikes(0, 24);
        x.addRule(0, 12, 0, 23);
        x.addRule(0, 12, 3, 24);
        x.addRule(0, 12, 3, 23);
        Check.same("by method 0", x.ruleValue(0), 23931852);
        Check.same("by method 3", x.ruleValue(1), 24000000);
        Check.same("by their limits", x.violated(), 1 + 4);
        Doc.describes("Its value is the roundness by this method, in micro units, that the present profile would have");
        for (int method = 0; method < 4; method++) {
            RoundnessInstrument y = Given.spikes(3, 900, 9, -400, 14, 250);
            y.addRule(2, 7, method, 0);
            double value = (double) y.ruleValue(0) / 1000000;
            Check.same("the profile stays", y.profile(3), 900000000);
            y.keepLobes(2, 7);
            Check.same("by " + method, value, y.roundness(method));
        }
        Doc.describes("It is violated if its value is greater than the limit times 1000000");
        x = alternating(10);
        x.addRule(12, 12, 0, 20);
        x.addRule(12, 12, 0, 19);
        Check.same("20000000 is not greater than 20", x.violated(), 2);
        x = Given.spikes(1, 6);
        x.addRule(0, 12, 3, 6);
        Check.same("6000001", x.ruleValue(0), 6000001);
        Check.same("6000001 is greater than 6", x.violated(), 1);
    }

    private static void addRule() {
        RoundnessInstrument x = new RoundnessInstrument();
        Doc.says(43, "Adds a rule");
        Check.same("the first", x.addRule(2, 5, 1, 30), 0);
        Check.same("it has a value", x.ruleValue(0), 0);
        Doc.says(43, "`first`: 0 to last");
        Check.same("0", x.addRule(0, 5, 1, 30), 1);
        Check.same("last", x.addRule(5, 5, 1, 30), 2);
        Doc.says(43, "`last`: first to 12");
        Check.same("12", x.addRule(12, 12, 1, 30), 3);
        Doc.says(43, "`method`: 0 to 3");
        Check.same("method 0", x.addRule(2, 5, 0, 30), 4);
        Check.same("method 3", x.addRule(2, 5, 3, 30), 5);
        Doc.says(43, "`limit`: 0 to 20000");
        Check.same("limit 0", x.addRule(2, 5, 1, 0), 6);
        Check.same("limit 20000", x.addRule(2, 5, 1, 20000), 7);
        Doc.says(43, "Returns the number of the rule");
        x.clearRules();
        Check.same("from 0 again", x.addRule(2, 5, 1, 0), 0);
        Check.same("the same rule once more", x.addRule(2, 5, 1, 0), 1);
    }

    private static void addRuleErrors() {
        Doc.says(43, "BAD_VALUE");
        RoundnessInstrument x = new RoundnessInstrument();
        int[][] wrong = {{-1, 5, 0, 0}, {MIN, 5, 0, 0}, {6, 5, 0, 0}, {MAX, 5, 0, 0}, {13, 13, 0, 0}, {2, 13, 0, 0},
            {2, MAX, 0, 0}, {0, -1, 0, 0}, {2, MIN, 0, 0}, {2, 5, -1, 0}, {2, 5, 4, 0}, {2, 5, MIN, 0}, {2, 5, MAX, 0},
            {2, 5, 0, -1}, {2, 5, 0, 20001}, {2, 5, 0, MIN}, {2, 5, 0, MAX}};
        for (int[] row : wrong) {
            String call = "addRule(" + row[0] + ", " + row[1] + ", " + row[2] + ", " + row[3] + ")";
            Check.same(call, x.addRule(row[0], row[1], row[2], row[3]), Given.BAD);
        }
        Check.same("none was added", x.ruleValue(0), Given.NO_VALUE);
        Doc.says(43, "FULL if there are 8 rules");
        for (int rule = 0; rule < 8; rule++) {
            Check.same("rule " + rule, x.addRule(0, 12, 0, 0), rule);
        }
        Check.same("a ninth", x.addRule(0, 12, 0, 0), Given.FULL);
        Check.same("a bad ninth", x.addRule(0, 12, 4, 0), Given.BAD);
        Check.same("eight stay", x.clearRules(), 8);
        Check.same("there is room again", x.addRule(0, 12, 0, 0), 0);
    }

    private static void clearRules() {
        Doc.says(44, "Removes all rules");
        RoundnessInstrument x = alternating(10);
        x.addRule(12, 12, 0, 0);
        x.addRule(12, 12, 1, 0);
        x.clearRules();
        Check.same("no value", x.ruleValue(0), Given.NO_VALUE);
        Check.same("none violated", x.violated(), 0);
        Doc.says(44, "Returns how many there were");
        Check.same("none", x.clearRules(), 0);
        x.addRule(12, 12, 1, 0);
        Check.same("one", x.clearRules(), 1);
        for (int rule = 0; rule < 8; rule++) {
            x.addRule(12, 12, 0, 0);
        }
        Check.same("eight", x.clearRules(), 8);
    }

    private static void ruleValue() {
        Doc.says(45, "`rule`: number of a rule");
        RoundnessInstrument x = alternating(10);
        x.addRule(0, 11, 0, 0);
        x.addRule(12, 12, 2, 20000);
        Check.same("the first", x.ruleValue(0), 0);
        Check.same("the last", x.ruleValue(1), 20000000);
        Doc.says(45, "Returns its value");
        x.rotate(0);
        Given.loadSpikes(x, 0, 7, 1, 0);
        Check.same("of the present profile", x.ruleValue(1) < 20000000 ? 1 : 0, 1);
        x.undo();
        Check.same("of the profile before", x.ruleValue(1), 20000000);
        Doc.says(45, "NO_VALUE");
        for (int rule : new int[] {MIN, -1, 2, 7, 8, MAX}) {
            Check.same("ruleValue(" + rule + ")", x.ruleValue(rule), Given.NO_VALUE);
        }
        Check.same("of nothing", new RoundnessInstrument().ruleValue(0), Given.NO_VALUE);
    }

    private static void violated() {
        Doc.says(46, "Returns the violated rules, as a bit set (bit k for rule k)");
        Check.same("no rules", new RoundnessInstrument().violated(), 0);
        for (int set = 0; set < 256; set += 5) {
            RoundnessInstrument x = alternating(10);
            for (int rule = 0; rule < 8; rule++) {
                x.addRule(3, 12, rule % 4, (set >> rule & 1) == 1 ? 19 : 20);
            }
            Check.same("bits " + set, x.violated(), set);
        }
        RoundnessInstrument x = Given.measured(2, 0, 0, 10000);
        for (int i = 1; i <= 4; i++) {
            x.subtract(0, 0);
        }
        x.addRule(0, 12, 3, 20000);
        x.addRule(0, 0, 3, 20000);
        Check.same("40000000000 is greater than the greatest limit", x.violated(), 1);
    }
}
