import java.lang.reflect.Method;
import java.lang.reflect.Modifier;
import java.nio.file.Files;
import java.nio.file.Path;
import java.util.ArrayList;
import java.util.List;
import java.util.Set;
import java.util.TreeSet;
import java.util.regex.Matcher;
import java.util.regex.Pattern;
import java.util.stream.Stream;

/** README.md says how to use the class and how to run its tests; what it says must hold. */
public final class ReadmeTest {
    private static final Pattern CALL = Pattern.compile("x\\.(\\w+)\\((.*)\\); +// (\\S+)");
    private static final Pattern NAME = Pattern.compile("`(\\w+)`");

    public static void main(String[] args) throws Exception {
        String page = Files.readString(Path.of("README.md"));
        examples(page);
        calls(page);
        texts(page);
        tests(page);
        noCallMakesAnObject();
        Check.finish();
    }

    /** Each block is run on a new object; behind each call stands its answer. */
    private static void examples(String page) throws Exception {
        Matcher block = Pattern.compile("(?s)```java\n(.*?)```").matcher(page);
        int blocks = 0;
        while (block.find()) {
            Check.about("README.md, example " + ++blocks);
            RoundnessInstrument x = null;
            for (String line : block.group(1).split("\n")) {
                if (line.equals("RoundnessInstrument x = new RoundnessInstrument();")) {
                    x = new RoundnessInstrument();
                } else {
                    answer(x, line);
                }
            }
        }
        Check.about("");
        Check.isTrue("README.md has examples", blocks >= 2);
    }

    private static void answer(RoundnessInstrument x, String line) throws Exception {
        Matcher call = CALL.matcher(line);
        boolean known = call.matches();
        Check.isTrue("a call with its answer: " + line, known);
        if (known) {
            Method method = methodOf(call.group(1));
            Object got = method.invoke(x, arguments(method, call.group(2)));
            Check.isTrue(line + " answered " + got, got.toString().equals(meaning(call.group(3))));
        }
    }

    private static Method methodOf(String name) {
        for (Method method : RoundnessInstrument.class.getDeclaredMethods()) {
            if (Modifier.isPublic(method.getModifiers()) && method.getName().equals(name)) {
                return method;
            }
        }
        throw new IllegalStateException("README.md calls " + name + "(), which there is not");
    }

    private static Object[] arguments(Method method, String written) {
        Class<?>[] types = method.getParameterTypes();
        String[] words = written.isEmpty() ? new String[0] : written.split(", ");
        Object[] arguments = new Object[words.length];
        for (int i = 0; i < words.length; i++) {
            if (types[i] == boolean.class) {
                arguments[i] = Boolean.valueOf(words[i]);
            } else {
                arguments[i] = Integer.valueOf(words[i]);
            }
        }
        return arguments;
    }

    /** A number is written as it is answered, a constant by its name. */
    private static String meaning(String due) throws Exception {
        String face = "RoundnessInstrument.";
        if (due.startsWith(face)) {
            return RoundnessInstrument.class.getField(due.substring(face.length())).get(null).toString();
        }
        return due;
    }

    private static void calls(String page) {
        int start = page.indexOf("| for | calls |");
        int end = page.indexOf("\n\n", start);
        Check.isTrue("README.md has a table of the calls", start >= 0 && end > start);
        Set<String> told = new TreeSet<>();
        for (String row : page.substring(Math.max(start, 0), Math.max(end, 0)).split("\n")) {
            String[] cells = row.split("\\|");
            Matcher name = NAME.matcher(cells.length > 2 ? cells[2] : "");
            while (name.find()) {
                told.add(name.group(1));
            }
        }
        Set<String> due = new TreeSet<>();
        for (Method method : RoundnessInstrument.class.getDeclaredMethods()) {
            if (Modifier.isPublic(method.getModifiers())) {
                due.add(method.getName());
            }
        }
        Check.isTrue("README.md tells all calls and no others: " + told, told.equals(due));
    }

    private static void texts(String page) {
        Matcher text = Pattern.compile("`([^` ]*;[^` ]*)`").matcher(page);
        int texts = 0;
        while (text.find()) {
            RoundnessInstrument x = new RoundnessInstrument();
            Given.type(x, text.group(1));
            Check.same("items of " + text.group(1), x.readText(), text.group(1).split(";").length);
            texts++;
        }
        Check.isTrue("README.md shows a text", texts > 0);
    }

    private static void tests(String page) throws Exception {
        Set<String> due = new TreeSet<>();
        try (Stream<Path> files = Files.list(Path.of("src/test/java"))) {
            files.map(file -> file.getFileName().toString()).filter(file -> file.endsWith("Test.java"))
                    .forEach(file -> due.add(file.replace(".java", "")));
        }
        Set<String> told = new TreeSet<>();
        Matcher name = Pattern.compile("`(\\w+Test)`").matcher(page);
        while (name.find()) {
            told.add(name.group(1));
        }
        Check.isTrue("README.md tells all tests and no others: " + told, told.equals(due));
        for (String path : new String[] {".ci/run", "../shared/tests", "../shared/DOC.md", "../shared/LANGUAGE.md"}) {
            Check.isTrue("README.md tells of " + path, page.contains("`" + path) || page.contains(path + "\n"));
            Check.isTrue("there is " + path, Files.exists(Path.of(path)));
        }
    }

    /** Objects are made by the initialisers of fields and by constructors, to which no call goes. */
    private static void noCallMakesAnObject() throws Exception {
        List<String> made = new ArrayList<>();
        boolean constructing = false;
        for (String line : Files.readAllLines(Path.of("src/main/java/RoundnessInstrument.java"))) {
            if (line.matches(" +(public|private) .*\\) \\{")) {
                constructing = line.matches(" +(public|private) [A-Z]\\w*\\(\\) \\{");
            }
            boolean field = line.matches(" +private (static )?final [^(]* = new [^(]*(\\(\\))?;");
            if (line.matches(".*\\b(new|clone|copyOf|copyOfRange)\\b.*") && !line.matches(" *(//|\\*|/\\*).*")
                    && !field && !constructing) {
                made.add(line.trim());
            }
        }
        Check.isTrue("no call makes an object: " + made, made.isEmpty());
    }
}
