import java.io.IOException;
import java.nio.file.Files;
import java.nio.file.Path;
import java.util.ArrayList;
import java.util.HashSet;
import java.util.List;
import java.util.Map;
import java.util.Set;
import java.util.TreeMap;

/** Tests that bear the sentence of the document that they are about, and the check that no sentence is left out. */
final class Sentences {
    private static final Map<String, Set<String>> QUOTED = new TreeMap<>();
    private static final String RANGE = "`\\w+`: .*(\\d to \\d|from . to .|starting at|any character).*";
    private static final String BOUND = "Returns .*[0-9;].*";

    private final String section;

    private Sentences(String section) {
        this.section = section;
    }

    static Sentences of(String section) {
        return new Sentences(section);
    }

    static Sentences promise(int number) {
        return new Sentences("Promise " + number);
    }

    void test(String sentence, Check.Body body) {
        QUOTED.computeIfAbsent(section, s -> new HashSet<>()).add(sentence);
        Check.test(section + ": " + sentence, body);
    }

    void index(String condition, Check.Body body) {
        test("Throws `IndexOutOfBoundsException` if " + condition, body);
    }

    void argument(String condition, Check.Body body) {
        test("Throws `IllegalArgumentException` if " + condition, body);
    }

    void state(String condition, Check.Body body) {
        test("Throws `IllegalStateException` if " + condition, body);
    }

    void element(String condition, Check.Body body) {
        test("Throws `NoSuchElementException` if " + condition, body);
    }

    /** To be called behind all tests: what needs a test must have been quoted, and nothing made up. */
    static void compareWith(Path document) {
        Map<String, List<String>> all = new TreeMap<>();
        Map<String, List<String>> needed = new TreeMap<>();
        read(document, all, needed);
        Check.test("each sentence that needs a test has one", () -> reportMissing("a test", needed, QUOTED));
        Check.test("each test's sentence stands in the document", () -> reportMissing("in the document", QUOTED, all));
    }

    private static void reportMissing(String what, Map<String, ? extends Iterable<String>> wanted,
            Map<String, ? extends java.util.Collection<String>> there) {
        wanted.forEach((section, sentences) -> {
            for (String sentence : sentences) {
                boolean isThere = there.containsKey(section) && there.get(section).contains(sentence);
                Check.same("is there " + what + ": " + section + ": " + sentence, isThere, true);
            }
        });
    }

    private static void read(Path document, Map<String, List<String>> all, Map<String, List<String>> needed) {
        String section = "";
        StringBuilder paragraph = new StringBuilder();
        for (String line : linesOf(document)) {
            boolean isTitle = line.startsWith("## ");
            if (isTitle || line.isBlank() || line.startsWith("- ")) {
                String text = paragraph.toString().trim();
                boolean isSummary = text.startsWith("`") && text.contains(")");
                for (String sentence : split(isSummary ? text.substring(text.indexOf("`: ") + 3) : text)) {
                    all.computeIfAbsent(section, s -> new ArrayList<>()).add(sentence);
                    if (needsTest(section, sentence, isSummary)) {
                        needed.computeIfAbsent(section, s -> new ArrayList<>()).add(sentence);
                    }
                }
                paragraph.setLength(0);
            }
            if (isTitle) {
                section = line.substring(3).split(":")[0];
            } else {
                paragraph.append(line.startsWith("- ") ? line.substring(2) : line).append(' ');
            }
        }
    }

    private static String[] split(String paragraph) {
        return paragraph.split("(?<=\\.) (?=[A-Z])");
    }

    private static boolean needsTest(String section, String sentence, boolean isSummary) {
        if (section.equals("Terms")) {
            // a single word is the title of a paragraph
            return sentence.contains(" ") && !sentence.equals("The class is not thread-safe.");
        }
        return section.startsWith("Promise ")
                && (isSummary || sentence.startsWith("Throws ") || sentence.matches(RANGE) || sentence.matches(BOUND));
    }

    private static List<String> linesOf(Path document) {
        try {
            return Files.readAllLines(document);
        } catch (IOException e) {
            throw new IllegalStateException(e);
        }
    }
}
