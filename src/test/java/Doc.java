import java.io.IOException;
import java.nio.file.Files;
import java.nio.file.Path;
import java.util.ArrayList;
import java.util.HashSet;
import java.util.LinkedHashMap;
import java.util.List;
import java.util.Map;
import java.util.Set;

/**
 * The sentences of ../shared/DOC.md. A test says which of them it is about, so that a wrong answer is told with its
 * sentence, and finish() complains about every sentence that no test is about.
 */
final class Doc {
    private static final Path FILE = Path.of("../shared/DOC.md");
    private static final String DESCRIPTION = "Description";
    private static final Map<String, List<String>> SENTENCES = new LinkedHashMap<>();
    private static final Set<String> NAMED = new HashSet<>();

    private Doc() {
    }

    /** What follows is about a sentence of a promise: the whole of it, or words that stand in no other one there. */
    static void says(int promise, String words) {
        name("Promise " + promise + ":", words);
    }

    /** What follows is about a sentence of the description. */
    static void describes(String words) {
        name(DESCRIPTION, words);
    }

    /** Complains about the sentences without a test. */
    static void finish() {
        Check.about("every sentence has a test");
        for (Map.Entry<String, List<String>> section : sentences().entrySet()) {
            for (String sentence : section.getValue()) {
                String where = section.getKey() + " " + sentence;
                Check.isTrue(where, NAMED.contains(where));
            }
        }
    }

    private static void name(String section, String words) {
        Check.about(section + " " + words);
        List<String> found = new ArrayList<>();
        for (String sentence : sentences().getOrDefault(section, List.of())) {
            if (sentence.equals(words)) {
                found = List.of(sentence);
                break;
            }
            if (sentence.contains(words)) {
                found.add(sentence);
            }
        }
        Check.same("sentences of the document with these words", found.size(), 1);
        for (String sentence : found) {
            NAMED.add(section + " " + sentence);
        }
    }

    private static Map<String, List<String>> sentences() {
        if (SENTENCES.isEmpty()) {
            try {
                split(Files.readAllLines(FILE));
            } catch (IOException missing) {
                throw new IllegalStateException("run the tests from the project's folder: " + missing);
            }
        }
        return SENTENCES;
    }

    private static void split(List<String> lines) {
        String section = "";
        for (String line : lines) {
            if (line.startsWith("## ")) {
                boolean promise = line.startsWith("## Promise ");
                section = promise ? line.substring(3, line.indexOf(':') + 1) : line.substring(3);
            } else if (isTested(section, line)) {
                SENTENCES.computeIfAbsent(section, unknown -> new ArrayList<>()).addAll(parts(line));
            }
        }
    }

    /** Headings, signatures and the examples are left out; ExamplesTest and FaceTest have them. */
    private static boolean isTested(String section, String line) {
        boolean known = section.equals(DESCRIPTION) || section.startsWith("Promise ");
        boolean sentence = !line.isBlank() && !line.startsWith("`") && !line.startsWith("----")
                && !line.matches("\\d\\. .*") && !line.startsWith("Examples:");
        return known && sentence && !line.equals("The constants:") && !line.startsWith("The constructor and");
    }

    /** A sentence ends at a full stop or a semicolon; a heading of one word within a line is none. */
    private static List<String> parts(String line) {
        List<String> parts = new ArrayList<>();
        String text = line.strip().replaceFirst("^- ", "");
        for (String part : text.split("(?<=[.;]) ")) {
            String sentence = part.replaceFirst("[.;]$", "");
            boolean heading = part.endsWith(".") && !sentence.contains(" ") && sentence.matches("[A-Z].*[a-zA-Z]")
                    && !sentence.equals(sentence.toUpperCase());
            if (!heading && !sentence.equals("Reference circles")) {
                parts.add(sentence);
            }
        }
        return parts;
    }
}
