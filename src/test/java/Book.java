import java.io.IOException;
import java.nio.file.Files;
import java.nio.file.Path;
import java.util.Arrays;
import java.util.LinkedHashMap;
import java.util.Map;
import java.util.regex.Pattern;

/** The document, and which of its sentences have a test: each test here bears the words that it is about. */
final class Book {
    private static final Path DOC = Path.of("../shared/DOC.md");
    /** Headings that the document writes as lines of their own, without a "#". */
    private static final String BARE_HEADINGS = "|Stars, navigators|Sailing, nights|";
    /** Sections that name no case of a call: what it is about, its face (see FaceTest), and what is free. */
    private static final String WITHOUT_CASES = "|LampLatitudes|The public face|Not promised|";
    /** What is left between the sentences that have tests: words that name no case by themselves. */
    private static final Pattern NO_CASE = Pattern.compile("Latitude by lamplight, .*|CONVENTIONS|Angles are told in minutes of"
        + " arc|\\(In parentheses: range; first value\\.\\)|text|what|and|\\||Returns (the|a) number|");

    private final Map<String, String> sections = new LinkedHashMap<>();
    private final Map<String, boolean[]> tested = new LinkedHashMap<>();
    private int sentences = 0;

    Book() {
        if (Files.isReadable(DOC)) {
            readSections();
        } else {
            System.out.println(DOC + " cannot be read: the words of the sentences are not compared with it");
        }
    }

    private void readSections() {
        String heading = "";
        try {
            for (String line : Files.readAllLines(DOC)) {
                boolean bare = BARE_HEADINGS.contains("|" + line + "|");
                if (bare || line.matches("#+ .*")) {
                    heading = line.replaceFirst("^#+ ", "").replaceFirst("^(Promise \\d+):.*", "$1");
                    sections.put(heading, "");
                } else {
                    String withoutSignature = line.replaceFirst("^`[^`]*\\([^`]*\\)`: ", "");
                    sections.merge(heading, withoutSignature + "\n", String::concat);
                }
            }
        } catch (IOException failed) {
            Due.due("reading " + DOC, failed.toString(), "the document");
        }
        for (String each : sections.keySet()) {
            tested.put(each, new boolean[sections.get(each).length()]);
        }
    }

    /** Runs the test of one sentence; what it finds wrong is told with the sentence. */
    void sentence(String section, String words, Runnable test) {
        Due.about(section + ", \"" + words + "\": ");
        mark(section, words);
        int before = Due.answers();
        try {
            test.run();
        } catch (RuntimeException | Error thrown) {
            Due.due("the test", thrown.toString(), "an end without an exception");
        }
        Due.due("compares answers", Due.answers() > before ? 1 : 0, 1);
        Due.about("");
        sentences++;
    }

    private void mark(String section, String words) {
        if (sections.isEmpty()) {
            return;
        }
        int at = sections.getOrDefault(section, "").indexOf(words);
        Due.due("stands in the document", at >= 0 ? 1 : 0, 1);
        if (at >= 0) {
            Arrays.fill(tested.get(section), at, at + words.length(), true);
        }
    }

    /** Each word of the document stands in a sentence that has a test, or names no case. */
    void dueWhole() {
        for (Map.Entry<String, String> section : sections.entrySet()) {
            if (!WITHOUT_CASES.contains("|" + section.getKey() + "|")) {
                boolean[] marks = tested.get(section.getKey());
                StringBuilder rest = new StringBuilder();
                for (int at = 0; at < marks.length; at++) {
                    rest.append(marks[at] ? '\n' : section.getValue().charAt(at));
                }
                dueNothingLeft(section.getKey(), rest.toString());
            }
        }
        System.out.println("sentences with a test: " + sentences);
    }

    private static void dueNothingLeft(String section, String rest) {
        for (String line : rest.split("\n")) {
            String words = line.replaceAll("^[\\s.,;:`-]+|[\\s.,;:`-]+$", "");
            Due.due(section + ", words without a test", NO_CASE.matcher(words).matches() ? "" : words, "");
        }
    }
}
