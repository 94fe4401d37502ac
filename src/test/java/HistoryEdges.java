import java.util.ArrayList;
import java.util.List;

/** Promises 21 to 25 and what the description says about undo, redo and harmonics, sentence by sentence. */
final class HistoryEdges {
    private static final int MIN = Integer.MIN_VALUE;
    private static final int MAX = Integer.MAX_VALUE;

    private HistoryEdges() {
    }

    private interface Change {
        int on(RoundnessInstrument x);
    }

    static void run() {
        firstProfile();
        whatCanBeUndone();
        twentyLatest();
        twentyAfterUndo();
        untilTheNextCall();
        undo();
        redo();
        harmonicDescription();
        harmonic();
        strength();
        dominant();
    }

    /** The seven calls that replace or change the profile; trace 0 and all sources of load() are there. */
    private static List<Change> changes() {
        List<Change> all = new ArrayList<>();
        all.add(x -> x.load(3, 0));
        all.add(x -> x.rotate(5));
        all.add(x -> x.removeEccentricity());
        all.add(x -> x.keepLobes(2, 5));
        all.add(x -> x.subtract(3, 0));
        all.add(x -> x.vBlock(2));
        all.add(x -> x.recall(0));
        return all;
    }

    /** The present profile has a spike at 3, trace 0 one at 9; nothing else differs from a new object but one undo. */
    private static RoundnessInstrument prepared() {
        RoundnessInstrument x = new RoundnessInstrument();
        Given.loadSpikes(x, 9, 50);
        x.storeTrace(0);
        Given.loadSpikes(x, 3, 70);
        return x;
    }

    private static void firstProfile() {
        Doc.describes("The present profile z(0) to z(23) is all 0 at first");
        RoundnessInstrument x = new RoundnessInstrument();
        Check.profile("at first", x, 0);
        Check.same("nothing to undo", x.undo(), Given.NONE);
        x.load(3, 0);
        Check.same("the first one can be brought back", x.undo(), 0);
        Check.profile("brought back", x, 0);
    }

    private static void whatCanBeUndone() {
        Doc.describes("It is replaced or changed by load(), rotate(), removeEccentricity(), keepLobes(), subtract(),");
        List<Change> all = changes();
        for (int i = 0; i < all.size(); i++) {
            RoundnessInstrument x = prepared();
            x.setTrue(false, 1, 5);
            Check.same("change " + i, all.get(i).on(x), 1);
            boolean changed = false;
            for (int k = 0; k < 24; k++) {
                changed = changed || x.profile(k) != (k == 3 ? 70000000 : 0);
            }
            Check.isTrue("it is changed by " + i, changed);
            Check.same("it can be undone, " + i, x.undo(), 2);
            for (int k = 0; k < 24; k++) {
                Check.same("undone " + i + " at " + k, x.profile(k), k == 3 ? 70000000 : 0);
            }
        }
        Doc.describes("Each such call that reports no error (also if the profile stays the same) can be undone");
        for (int i = 0; i < all.size(); i++) {
            RoundnessInstrument x = new RoundnessInstrument();
            x.storeTrace(0);
            Check.same("nothing is changed by " + i, all.get(i).on(x), i == 0 ? 1 : 0);
            Check.same("undo " + i, x.undo(), 0);
            Check.same("redo " + i, x.redo(), 0);
            Check.same("undo again " + i, x.undo(), 0);
            Check.same("no more " + i, x.undo(), Given.NONE);
        }
    }

    private static void twentyLatest() {
        Doc.describes("the 20 latest ones are remembered");
        for (int calls : new int[] {19, 20, 21, 22, 41, 45}) {
            RoundnessInstrument x = new RoundnessInstrument();
            x.setTrue(false, 0, 1);
            x.load(3, 0);
            for (int i = 2; i <= calls; i++) {
                x.rotate(1);
            }
            int remembered = Math.min(calls, 20);
            for (int left = remembered - 1; left >= 0; left--) {
                Check.same(calls + " calls, undo with " + left + " left", x.undo(), left);
            }
            Check.same(calls + " calls, no more", x.undo(), Given.NONE);
            int rotated = calls - remembered - 1;
            for (int k = 0; k < 24; k++) {
                boolean there = rotated >= 0 && k == rotated % 24;
                Check.same(calls + " calls, the profile before them, " + k, x.profile(k), there ? 1000000 : 0);
            }
        }
    }

    private static void twentyAfterUndo() {
        RoundnessInstrument x = new RoundnessInstrument();
        x.setTrue(false, 0, 1);
        x.load(3, 0);
        for (int i = 2; i <= 25; i++) {
            x.rotate(1);
        }
        for (int left = 19; left >= 15; left--) {
            Check.same("25 calls, undo with " + left + " left", x.undo(), left);
        }
        Check.same("a call after 5 are undone", x.rotate(2), 1);
        for (int left = 15; left >= 0; left--) {
            Check.same("then undo with " + left + " left", x.undo(), left);
        }
        Check.same("no more", x.undo(), Given.NONE);
        Check.same("the oldest profile", x.profile(4), 1000000);
        for (int left = 15; left >= 0; left--) {
            Check.same("redo with " + left + " left", x.redo(), left);
        }
        Check.same("no more to redo", x.redo(), Given.NONE);
        Check.same("the latest profile", x.profile(21), 1000000);
    }

    private static void untilTheNextCall() {
        Doc.describes("What was undone can be redone until the next such call");
        List<Change> all = changes();
        for (int i = 0; i < all.size(); i++) {
            RoundnessInstrument x = prepared();
            x.undo();
            all.get(i).on(x);
            Check.same("no redo after change " + i, x.redo(), Given.NONE);
            Check.same("undo after change " + i, x.undo(), 1);
            Check.same("redo it, " + i, x.redo(), 0);
        }
        RoundnessInstrument x = prepared();
        x.undo();
        x.rotate(0);
        Check.same("no redo after a call that changes nothing", x.redo(), Given.NONE);
        x = prepared();
        x.undo();
        int[] errors = {x.load(5, 0), x.load(0, 4), x.load(1, 0), x.rotate(24), x.keepLobes(1, 0), x.subtract(5, 0),
            x.subtract(2, 0), x.vBlock(0), x.recall(1), x.recall(-1)};
        for (int error : errors) {
            Check.isTrue("an error", error == Given.BAD || error == Given.NOT_NOW);
        }
        x.setSteps(2);
        x.read(5);
        x.storeTrace(4);
        x.addRule(0, 12, 1, 4);
        x.violated();
        x.roundness(1);
        x.setTrue(false, 0, 4);
        Given.type(x, "n2");
        x.readText();
        Check.same("redo after errors and other calls", x.redo(), 0);
        Check.same("redone", x.profile(3), 70000000);
    }

    private static void undo() {
        Doc.says(21, "Undoes the latest call that changed the present profile and is remembered");
        RoundnessInstrument x = prepared();
        x.rotate(4);
        Check.same("undo the rotation", x.undo(), 2);
        Check.same("before it", x.profile(3), 70000000);
        Doc.says(21, "Returns how many more can be undone");
        Check.same("undo the second load", x.undo(), 1);
        Check.same("before it", x.profile(9), 50000000);
        Check.same("undo the first load", x.undo(), 0);
        Doc.says(21, "NONE if there is none (nothing changes then)");
        Check.same("undo of nothing", x.undo(), Given.NONE);
        Check.same("undo of nothing again", x.undo(), Given.NONE);
        Check.profile("nothing changes", x, 0);
        Check.same("all three can be redone", x.redo(), 2);
        Check.same("undo of a new object", new RoundnessInstrument().undo(), Given.NONE);
    }

    private static void redo() {
        Doc.says(22, "Redoes the latest call that was undone");
        RoundnessInstrument x = prepared();
        x.rotate(4);
        x.undo();
        x.undo();
        x.undo();
        Check.same("redo the first load", x.redo(), 2);
        Check.same("the first load", x.profile(9), 50000000);
        Check.same("redo the second load", x.redo(), 1);
        Check.same("the second load", x.profile(3), 70000000);
        Doc.says(22, "Returns how many more can be redone");
        Check.same("redo the rotation", x.redo(), 0);
        Check.same("the rotation", x.profile(7), 70000000);
        Doc.says(22, "NONE if there is none (nothing changes then)");
        Check.same("redo of nothing", x.redo(), Given.NONE);
        Check.same("redo of nothing again", x.redo(), Given.NONE);
        Check.same("nothing changes", x.profile(7), 70000000);
        Check.same("all three can be undone", x.undo(), 2);
        Check.same("redo of a new object", new RoundnessInstrument().redo(), Given.NONE);
    }

    private static void harmonicDescription() {
        RoundnessInstrument x = Given.spikes(1, 24);
        Doc.describes("For h from 0 to 12, A(h) is the sum of z(k) * c(h * k) over all k, divided by 12000000, and");
        Check.same("A(1)", x.harmonic(1, false), 1931852);
        Check.same("B(1)", x.harmonic(1, true), 517638);
        Check.same("A(11)", x.harmonic(11, false), -1931852);
        Check.same("B(11)", x.harmonic(11, true), 517638);
        Doc.describes("for h = 0 and h = 12 the divisor is 24000000");
        Check.same("A(0)", x.harmonic(0, false), 1000000);
        Check.same("B(0)", x.harmonic(0, true), 0);
        Check.same("A(12)", x.harmonic(12, false), -1000000);
        Check.same("B(12)", x.harmonic(12, true), 0);
        Doc.describes("The strength of h is the sum of the absolute values of A(h) and B(h)");
        Check.same("strength(11)", x.strength(11), 1931852 + 517638);
        Check.same("strength(12)", x.strength(12), 1000000);
        x = Given.spikes(14, 24);
        Check.same("A(1) below 0", x.harmonic(1, false), -1732050);
        Check.same("B(1) below 0", x.harmonic(1, true), -1000000);
        Check.same("both below 0", x.strength(1), 2732050);
    }

    private static void harmonic() {
        RoundnessInstrument x = Given.spikes(1, 24);
        Doc.says(23, "`h`: 0 to 12");
        Check.same("first", x.harmonic(0, false), 1000000);
        Check.same("last", x.harmonic(12, false), -1000000);
        Doc.says(23, "`sine`: true for B(h), false for A(h)");
        Check.same("A(2)", x.harmonic(2, false), 1732050);
        Check.same("B(2)", x.harmonic(2, true), 1000000);
        Doc.says(23, "Returns the number");
        Check.same("A(6)", x.harmonic(6, false), 0);
        Check.same("B(6)", x.harmonic(6, true), 2000000);
        Doc.says(23, "NO_VALUE");
        for (int h : new int[] {MIN, -1, 13, 24, MAX}) {
            Check.same("A(" + h + ")", x.harmonic(h, false), Given.NO_VALUE);
            Check.same("B(" + h + ")", x.harmonic(h, true), Given.NO_VALUE);
        }
    }

    private static void strength() {
        RoundnessInstrument x = Given.spikes(1, 24);
        Doc.says(24, "`h`: 0 to 12");
        Check.same("first", x.strength(0), 1000000);
        Check.same("last", x.strength(12), 1000000);
        Doc.says(24, "Returns the strength");
        Check.same("strength(1)", x.strength(1), 1931852 + 517638);
        Doc.says(24, "NO_VALUE");
        for (int h : new int[] {MIN, -1, 13, 24, MAX}) {
            Check.same("strength(" + h + ")", x.strength(h), Given.NO_VALUE);
        }
    }

    private static void dominant() {
        Doc.says(25, "`first`: 0 to 12");
        RoundnessInstrument x = new RoundnessInstrument();
        x.addLobes(false, 0, 300, 0);
        x.addLobes(false, 12, 200, 0);
        x.addLobes(false, 6, 100, 0);
        x.load(3, 0);
        Check.same("dominant(0)", x.dominant(0), 0);
        Check.same("dominant(12)", x.dominant(12), 12);
        Doc.says(25, "Returns the number from first to 12 with the greatest strength, the first one of several");
        Check.same("the last one", x.dominant(1), 12);
        x.keepLobes(0, 11);
        Check.same("not below first", x.dominant(1), 6);
        Check.same("the first itself", x.dominant(6), 6);
        Check.same("only zeros from 7", x.dominant(7), 7);
        Check.same("all alike", new RoundnessInstrument().dominant(5), 5);
        x = Given.spikes(0, 24);
        for (int first = 1; first <= 12; first++) {
            Check.same("one spike, from " + first, x.dominant(first), first);
        }
        Check.same("one spike, from 0", x.dominant(0), 1);
        Doc.says(25, "BAD_VALUE");
        for (int first : new int[] {MIN, -1, 13, MAX}) {
            Check.same("dominant(" + first + ")", x.dominant(first), Given.BAD);
        }
    }
}
