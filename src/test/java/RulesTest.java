/** Promises 43 to 46: rules. */
public final class RulesTest {
    public static void main(String[] args) {
        addRule();
        addRuleErrors();
        clearRules();
        ruleValue();
        ruleValueByMethod();
        violated();
        rulesLeaveTheProfile();
        Check.finish();
    }

    /** The present profile alternates between amplitude and -amplitude, in whole units. */
    private static RoundnessInstrument alternating(int amplitude) {
        RoundnessInstrument x = new RoundnessInstrument();
        x.addLobes(false, 12, amplitude, 0);
        x.load(3, 0);
        return x;
    }

    private static void addRule() {
        RoundnessInstrument x = new RoundnessInstrument();
        Check.same("all lobes", x.addRule(0, 12, 0, 0), 0);
        Check.same("one number of lobes", x.addRule(5, 5, 3, 20000), 1);
        Check.same("the greatest number", x.addRule(12, 12, 1, 1), 2);
        for (int rule = 3; rule < 8; rule++) {
            Check.same("rule " + rule, x.addRule(0, 0, 2, rule), rule);
        }
        Check.same("a ninth", x.addRule(0, 12, 0, 0), Given.FULL);
        Check.same("a wrong ninth", x.addRule(0, 13, 0, 0), Given.BAD);
    }

    private static void addRuleErrors() {
        RoundnessInstrument x = new RoundnessInstrument();
        Check.same("first -1", x.addRule(-1, 3, 0, 0), Given.BAD);
        Check.same("first above last", x.addRule(4, 3, 0, 0), Given.BAD);
        Check.same("last 13", x.addRule(4, 13, 0, 0), Given.BAD);
        Check.same("last MIN", x.addRule(0, Integer.MIN_VALUE, 0, 0), Given.BAD);
        Check.same("method -1", x.addRule(2, 3, -1, 0), Given.BAD);
        Check.same("method 4", x.addRule(2, 3, 4, 0), Given.BAD);
        Check.same("limit -1", x.addRule(2, 3, 0, -1), Given.BAD);
        Check.same("limit 20001", x.addRule(2, 3, 0, 20001), Given.BAD);
        Check.same("no rule was added", x.clearRules(), 0);
    }

    private static void clearRules() {
        RoundnessInstrument x = alternating(10);
        x.addRule(12, 12, 0, 0);
        x.addRule(12, 12, 1, 0);
        Check.same("both violated", x.violated(), 3);
        Check.same("clear two", x.clearRules(), 2);
        Check.same("clear none", x.clearRules(), 0);
        Check.same("no rule", x.ruleValue(0), Given.NO_VALUE);
        Check.same("none violated", x.violated(), 0);
        Check.same("numbers begin again", x.addRule(0, 0, 0, 0), 0);
        Check.same("the new rule", x.ruleValue(0), 0);
        x = Given.spikes(0, 24);
        x.addRule(0, 12, 3, 0);
        Check.same("by method 3", x.ruleValue(0), 24000000);
        x.clearRules();
        x.addRule(0, 12, 2, 0);
        x.keepLobes(0, 12);
        Check.same("by method 2", (double) x.ruleValue(0) / 1000000, x.roundness(2));
    }

    private static void ruleValue() {
        RoundnessInstrument x = alternating(10);
        x.addRule(12, 12, 0, 0);
        x.addRule(0, 11, 0, 0);
        Check.same("only twelve lobes", x.ruleValue(0), 20000000);
        Check.same("all others", x.ruleValue(1), 0);
        Check.same("rule -1", x.ruleValue(-1), Given.NO_VALUE);
        Check.same("rule 2", x.ruleValue(2), Given.NO_VALUE);
        Check.same("rule MAX", x.ruleValue(Integer.MAX_VALUE), Given.NO_VALUE);
    }

    private static void ruleValueByMethod() {
        int[] profile = {3, 900, 9, -400, 14, 250};
        int[][] ranges = {{0, 12}, {2, 4}, {3, 12}, {1, 1}, {0, 0}};
        for (int[] range : ranges) {
            for (int method = 0; method < 4; method++) {
                RoundnessInstrument x = Given.spikes(profile);
                x.addRule(range[0], range[1], method, 0);
                double value = (double) x.ruleValue(0) / 1000000;
                x.keepLobes(range[0], range[1]);
                Check.same("lobes " + range[0] + " to " + range[1] + " by " + method, value, x.roundness(method));
            }
        }
    }

    private static void violated() {
        RoundnessInstrument x = alternating(10);
        Check.same("no rules", x.violated(), 0);
        x.addRule(12, 12, 0, 20);
        Check.same("just at the limit", x.violated(), 0);
        x.addRule(12, 12, 0, 19);
        Check.same("above the limit", x.violated(), 2);
        x.addRule(0, 11, 1, 0);
        Check.same("the third is kept", x.violated(), 2);
        for (int rule = 3; rule < 8; rule++) {
            x.addRule(12, 12, rule % 4, rule % 2 == 1 ? 0 : 20000);
        }
        Check.same("eight rules", x.violated(), 2 + 8 + 32 + 128);
        x.rotate(1);
        x.keepLobes(0, 11);
        Check.same("none of another profile", x.violated(), 0);
        x = Given.spikes(1, 6);
        x.addRule(0, 12, 3, 6);
        x.addRule(0, 12, 3, 7);
        Check.same("slightly above the limit", x.ruleValue(0), 6000001);
        Check.same("only one is violated", x.violated(), 1);
        x = Given.measured(2, 0, 0, 10000);
        x.load(0, 0);
        x.subtract(0, 0);
        for (int i = 0; i < 4; i++) {
            x.subtract(0, 0);
        }
        x.addRule(0, 12, 3, 20000);
        Check.same("the greatest limit", x.violated(), 1);
    }

    private static void rulesLeaveTheProfile() {
        RoundnessInstrument x = Given.spikes(3, 5);
        x.rotate(1);
        x.undo();
        x.addRule(2, 3, 1, 0);
        x.ruleValue(0);
        x.violated();
        Check.same("the profile stays", x.profile(3), 5000000);
        Check.same("a circle of the profile itself", x.extreme(1, true), 3);
        Check.same("what was undone stays", x.redo(), 0);
        Check.same("and what can be undone", x.undo(), 1);
    }
}
