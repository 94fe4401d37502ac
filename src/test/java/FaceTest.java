import java.lang.reflect.Constructor;
import java.lang.reflect.Executable;
import java.lang.reflect.Field;
import java.lang.reflect.Method;
import java.lang.reflect.Modifier;
import java.nio.charset.StandardCharsets;
import java.nio.file.Files;
import java.nio.file.Path;
import java.util.Arrays;
import java.util.Set;
import java.util.TreeSet;
import java.util.regex.Matcher;
import java.util.regex.Pattern;

/** The public face as the document has it, and those rules of LANGUAGE.md that a text search can see. */
public final class FaceTest {
    private static final String[] FACE = {
        "int setSteps(int)", "int read(int)", "int simulateStep()", "int removeReadings(int)", "int progress(int)",
        "int reading(int, int)", "int despike(int, int)", "long part(int)", "long spindle(int)", "int isBlind(int)",
        "long residual()", "int load(int, int)", "long profile(int)", "int rotate(int)", "int removeEccentricity()",
        "int keepLobes(int, int)", "int subtract(int, int)", "int vBlock(int)", "int isBlindInVBlock(int, int)",
        "int undo()", "int redo()", "long harmonic(int, boolean)", "long strength(int)", "int dominant(int)",
        "long centre(int, boolean)", "long deviation(int, int)", "double roundness(int)", "int extreme(int, boolean)",
        "float meanSquare()", "int materialAt(int, long)", "long depthFor(int, int)", "int storeTrace(int)",
        "int removeTraces(int)", "int recall(int)", "long traceValue(int, int)", "long axis(int, boolean)",
        "double cylindricity()", "int farthestTrace()", "long taper()", "long difference(int, int, int)",
        "int bestRotation(int, int)", "int addRule(int, int, int, int)", "int clearRules()", "long ruleValue(int)",
        "int violated()", "int type(char)", "int clearText()", "int readText()", "int setTrue(boolean, int, int)",
        "int addLobes(boolean, int, int, int)", "int setEccentricity(int, int)"};

    public static void main(String[] args) throws Exception {
        methods();
        constants();
        otherMembers();
        classesInside();
        source();
        Check.finish();
    }

    private static String parameters(Executable one) {
        StringBuilder all = new StringBuilder("(");
        for (Class<?> type : one.getParameterTypes()) {
            all.append(all.length() > 1 ? ", " : "").append(type.getName());
        }
        return all.append(")").toString();
    }

    private static void methods() {
        Set<String> due = new TreeSet<>(Arrays.asList(FACE));
        Set<String> got = new TreeSet<>();
        Set<String> names = new TreeSet<>();
        for (Method method : RoundnessInstrument.class.getDeclaredMethods()) {
            if (Modifier.isPublic(method.getModifiers())) {
                got.add(method.getReturnType().getName() + " " + method.getName() + parameters(method));
                names.add(method.getName());
                Check.isTrue(method + " is no static method", !Modifier.isStatic(method.getModifiers()));
                Check.same("exceptions of " + method, method.getExceptionTypes().length, 0);
            }
        }
        Check.isTrue("the public methods are those of the document: " + got, got.equals(due));
        Check.same("methods", got.size(), 51);
        for (Method method : RoundnessInstrument.class.getDeclaredMethods()) {
            if (!Modifier.isPublic(method.getModifiers())) {
                Check.isTrue(method + " is private", Modifier.isPrivate(method.getModifiers()));
                Check.isTrue(method + " has a name of its own", !names.contains(method.getName()));
            }
        }
    }

    private static void constants() {
        Check.same("BAD_VALUE", RoundnessInstrument.BAD_VALUE, -1000001);
        Check.same("NOT_NOW", RoundnessInstrument.NOT_NOW, -1000002);
        Check.same("NONE", RoundnessInstrument.NONE, -1000003);
        Check.same("FULL", RoundnessInstrument.FULL, -1000004);
        Check.same("NO_VALUE", RoundnessInstrument.NO_VALUE, Long.MIN_VALUE);
        int open = 0;
        for (Field field : RoundnessInstrument.class.getDeclaredFields()) {
            int modifiers = field.getModifiers();
            boolean constant = Modifier.isPublic(modifiers) && Modifier.isStatic(modifiers)
                    && Modifier.isFinal(modifiers);
            open += constant ? 1 : 0;
            Check.isTrue(field + " is a constant or private", constant || Modifier.isPrivate(modifiers));
        }
        Check.same("constants", open, 5);
    }

    private static void otherMembers() {
        Class<?> face = RoundnessInstrument.class;
        Check.isTrue("public final", Modifier.isPublic(face.getModifiers()) && Modifier.isFinal(face.getModifiers()));
        Check.isTrue("no package", face.getPackageName().isEmpty());
        Check.isTrue("nothing above", face.getSuperclass() == Object.class && face.getInterfaces().length == 0);
        Constructor<?>[] constructors = face.getDeclaredConstructors();
        Check.same("constructors", constructors.length, 1);
        Check.isTrue("public constructor", Modifier.isPublic(constructors[0].getModifiers()));
        Check.same("its parameters", constructors[0].getParameterCount(), 0);
    }

    /** LANGUAGE.md says "some twelve" classes, "some twenty" fields and "some sixty" lines; a little more is let pass. */
    private static void classesInside() {
        Class<?>[] inside = RoundnessInstrument.class.getDeclaredClasses();
        Check.isTrue("some twelve classes", inside.length <= 14);
        checkMembers(RoundnessInstrument.class);
        for (Class<?> one : inside) {
            int modifiers = one.getModifiers();
            Check.isTrue(one + " is hidden", !Modifier.isPublic(modifiers) && !Modifier.isProtected(modifiers));
            checkMembers(one);
        }
    }

    private static void checkMembers(Class<?> one) {
        int fields = 0;
        for (Field field : one.getDeclaredFields()) {
            boolean constant = Modifier.isStatic(field.getModifiers());
            fields += constant ? 0 : 1;
            Check.isTrue(field + " is final if static", !constant || Modifier.isFinal(field.getModifiers()));
        }
        Check.isTrue(one + " has some twenty fields", fields <= 24);
        for (Method method : one.getDeclaredMethods()) {
            Check.isTrue(method + " has at most seven parameters", method.getParameterCount() <= 7);
        }
    }

    private static void source() throws Exception {
        String text = Files.readString(Path.of("src/main/java/RoundnessInstrument.java"), StandardCharsets.UTF_8);
        String code = text.replaceAll("(?s)/\\*.*?\\*/", "").replaceAll("//[^\n]*", "");
        String[] forbidden = {"::", "(?m)^package\\b", "\\bfinally\\b", "\\bsynchronized\\b", "\\bassert\\b",
            "\\bprotected\\b", "static *\\{", "\\w+Exact\\(", "\\bSystem\\.(?!arraycopy)", "\\bThread\\b", "\\bStrictMath\\b",
            "\\bMath\\.(?!abs|max|min|floor(Div|Mod)|clamp|negate|signum|multiplyFull|ceil(Div|Mod))",
            "(?m)^import (?!java\\.util\\.(ArrayList|List|Arrays|Iterator|NoSuchElementException);)",
            "\\bcatch *\\([^)]*\\b(Throwable|Error|Exception|NullPointerException|ClassCastException"
                + "|NegativeArraySizeException|ArrayStoreException|ArrayIndexOutOfBoundsException)\\b"};
        for (String pattern : forbidden) {
            Matcher matcher = Pattern.compile(pattern).matcher(code);
            Check.isTrue("the source has no " + pattern, !matcher.find());
        }
        Check.isTrue("the code is plain ASCII", code.chars().allMatch(sign -> sign < 128));
        checkLengths(text.split("\n"));
    }

    /** Methods begin at a line that ends with "{" and is indented as a member is, and end at the brace below it. */
    private static void checkLengths(String[] lines) {
        for (String indent : new String[] {"    ", "        "}) {
            for (int i = 0; i < lines.length; i++) {
                if (lines[i].matches(indent + "(public|private)[^=]*\\) \\{")) {
                    int end = i;
                    while (end < lines.length && !lines[end].equals(indent + "}")) {
                        end++;
                    }
                    Check.isTrue(lines[i].trim() + " is short", end - i < 70);
                }
            }
        }
    }
}
