import java.lang.reflect.InvocationTargetException;
import java.lang.reflect.Method;
import java.util.ArrayList;
import java.util.Arrays;
import java.util.Comparator;
import java.util.HashMap;
import java.util.List;
import java.util.Map;
import java.util.Random;

/**
 * Runs of 512 calls on the program and on the Model, which must answer alike. The calls are drawn with fixed seeds,
 * so that every run of this test is the same.
 */
public final class ModelTest {
    private static final int RUNS = 300;
    private static final int CALLS = 512;
    private static final int LONGEST_TEXT = 80;

    /** For each method: how often it is drawn, then the least and the greatest value of each int argument. */
    private static final Map<String, int[]> DRAWN = new HashMap<>();

    private static final List<Method> METHODS = new ArrayList<>();

    public static void main(String[] args) throws Exception {
        describeMethods();
        for (Method method : RoundnessInstrument.class.getDeclaredMethods()) {
            if (java.lang.reflect.Modifier.isPublic(method.getModifiers())) {
                for (int i = 0; i < DRAWN.get(method.getName())[0]; i++) {
                    METHODS.add(method);
                }
            }
        }
        // The order in which a class tells its methods is not fixed, but the runs must be.
        METHODS.sort(Comparator.comparing(Method::getName));
        int wrong = 0;
        for (int run = 0; run < RUNS && wrong < 5; run++) {
            boolean alike = runAlike(run);
            Check.isTrue("run " + run, alike);
            wrong += alike ? 0 : 1;
        }
        Check.finish();
    }

    private static void describeMethods() {
        draw("setSteps", 1, 2, 12);
        draw("read", 4, -10000, 10000);
        draw("simulateStep", 16);
        draw("removeReadings", 1, 0, 30);
        draw("progress", 2, 0, 3);
        draw("reading", 3, 0, 11, 0, 23);
        draw("despike", 4, 0, 4, 0, 600);
        draw("part", 4, 0, 23);
        draw("spindle", 4, 0, 23);
        draw("isBlind", 1, 1, 12);
        draw("residual", 2);
        draw("load", 10, 0, 4, 0, 3);
        draw("profile", 6, 0, 23);
        draw("rotate", 4, -23, 23);
        draw("removeEccentricity", 4);
        draw("keepLobes", 5, 0, 12, 0, 12);
        draw("subtract", 8, 0, 4, 0, 3);
        draw("vBlock", 6, 1, 5);
        draw("isBlindInVBlock", 2, 1, 5, 1, 12);
        draw("undo", 6);
        draw("redo", 4);
        draw("harmonic", 4, 0, 12);
        draw("strength", 3, 0, 12);
        draw("dominant", 3, 0, 12);
        draw("centre", 3, 0, 3);
        draw("deviation", 3, 0, 3, 0, 23);
        draw("roundness", 3, 0, 3);
        draw("extreme", 3, 0, 3);
        draw("meanSquare", 2);
        draw("materialAt", 3, 0, 3);
        draw("depthFor", 3, 0, 3, 1, 24);
        draw("storeTrace", 6, 0, 100);
        draw("removeTraces", 1, 0, 3);
        draw("recall", 3, 0, 5);
        draw("traceValue", 4, 0, 5, 0, 3);
        draw("axis", 4, 0, 100);
        draw("cylindricity", 3);
        draw("farthestTrace", 3);
        draw("taper", 2);
        draw("difference", 3, 0, 5, 0, 5, 0, 23);
        draw("bestRotation", 3, 0, 5, 0, 5);
        draw("addRule", 4, 0, 12, 0, 12, 0, 3, 0, 20000);
        draw("clearRules", 1);
        draw("ruleValue", 2, 0, 7);
        draw("violated", 2);
        draw("type", 1);
        draw("clearText", 1);
        draw("readText", 1);
        draw("setTrue", 8, 0, 23, -5000, 5000);
        draw("addLobes", 6, 0, 12, -1000, 1000, 0, 23);
        draw("setEccentricity", 3, -5000, 5000, -5000, 5000);
    }

    private static void draw(String method, int... numbers) {
        DRAWN.put(method, numbers);
    }

    private static boolean runAlike(int run) throws Exception {
        Random random = new Random(run);
        RoundnessInstrument program = new RoundnessInstrument();
        Model model = new Model();
        List<String> log = new ArrayList<>();
        for (int call = 0; call < CALLS; call++) {
            Method method = METHODS.get(random.nextInt(METHODS.size()));
            if (method.getName().equals("type")) {
                call += call + LONGEST_TEXT < CALLS ? typeText(program, model, random, log) : 0;
                continue;
            }
            Object[] arguments = arguments(method, random);
            log.add(method.getName() + Arrays.toString(arguments));
            Object due = Model.class.getMethod(method.getName(), method.getParameterTypes()).invoke(model, arguments);
            Object got = answer(program, method, arguments);
            if (!due.equals(got)) {
                System.out.println("run " + run + ", call " + call + ": answered " + got + ", due is " + due);
                System.out.println("  after " + log.subList(Math.max(0, log.size() - 25), log.size()));
                return false;
            }
        }
        return true;
    }

    private static Object answer(RoundnessInstrument program, Method method, Object[] arguments) throws Exception {
        try {
            return method.invoke(program, arguments);
        } catch (InvocationTargetException thrown) {
            return thrown.getCause();
        }
    }

    private static Object[] arguments(Method method, Random random) {
        int[] ranges = DRAWN.get(method.getName());
        Class<?>[] types = method.getParameterTypes();
        Object[] arguments = new Object[types.length];
        int next = 1;
        for (int i = 0; i < types.length; i++) {
            if (types[i] == int.class) {
                arguments[i] = number(ranges[next], ranges[next + 1], random);
                next += 2;
            } else if (types[i] == boolean.class) {
                arguments[i] = random.nextBoolean();
            } else {
                arguments[i] = depth(random);
            }
        }
        return arguments;
    }

    /** Mostly within the range; its edges, round values and wrong ones come more often than chance would have it. */
    private static int number(int least, int greatest, Random random) {
        int kind = random.nextInt(100);
        if (kind == 0) {
            return random.nextBoolean() ? Integer.MIN_VALUE : Integer.MAX_VALUE;
        }
        if (kind <= 2) {
            return random.nextBoolean() ? least - 1 : greatest + 1;
        }
        if (kind <= 8) {
            return random.nextBoolean() ? least : greatest;
        }
        if (kind <= 50 && greatest > 500) {
            return random.nextInt(7) * 100 - (least < 0 ? 300 : 0);
        }
        return least + random.nextInt(greatest - least + 1);
    }

    private static long depth(Random random) {
        int kind = random.nextInt(20);
        if (kind == 0) {
            return random.nextBoolean() ? Long.MAX_VALUE : Long.MIN_VALUE;
        }
        return kind == 1 ? random.nextInt(2) - 1 : (long) (random.nextDouble() * 1e9) * random.nextInt(20);
    }

    /** Types a text of some items, often with a character changed, and reads it. */
    private static int typeText(RoundnessInstrument program, Model model, Random random, List<String> log) {
        StringBuilder text = new StringBuilder();
        int items = 1 + random.nextInt(3);
        for (int i = 0; i < items; i++) {
            text.append(i == 0 ? "" : ";").append(item(random));
        }
        if (random.nextInt(3) == 0) {
            String changed = "psenaf,;-0129 x" + (char) 233;
            text.setCharAt(random.nextInt(text.length()), changed.charAt(random.nextInt(changed.length())));
        }
        if (random.nextInt(6) == 0) {
            text.setLength(random.nextInt(text.length()));
        }
        if (random.nextInt(4) != 0) {
            same("clearText", program.clearText(), model.clearText());
        }
        for (int i = 0; i < text.length(); i++) {
            same("type", program.type(text.charAt(i)), model.type(text.charAt(i)));
        }
        log.add("text \"" + text + "\"");
        same("readText of " + text, program.readText(), model.readText());
        return text.length() + 1;
    }

    private static void same(String call, int got, int due) {
        if (got != due) {
            Check.same(call, got, due);
        }
    }

    private static String item(Random random) {
        String start = random.nextBoolean() ? "p" : "s";
        switch (random.nextInt(6)) {
            case 0:
                return "e" + number(-5000, 5000, random) + "," + number(-5000, 5000, random);
            case 1:
                return "n" + number(2, 12, random);
            case 2:
                return start + number(0, 12, random) + "a" + number(-1000, 1000, random);
            default:
                return start + number(0, 12, random) + "a" + number(-1000, 1000, random) + "f"
                        + number(0, 23, random);
        }
    }
}
