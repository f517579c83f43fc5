import java.io.IOException;
import java.nio.file.Files;
import java.nio.file.Path;
import java.util.LinkedHashSet;
import java.util.List;
import java.util.Set;

/** The sentences of the document: an edge test says which one it is about, and none is left out. */
final class Document {
    private static final Path PATH = Path.of("../shared/DOC.md");
    private static final List<String> SECTIONS =
            List.of("What it is", "Terms", "Clocks", "Lines", "Impact", "Causes");

    private static final Set<String> sentences = new LinkedHashSet<>();
    private static final Set<String> tested = new LinkedHashSet<>();
    private static int comparedBefore = -1;

    private Document() {
    }

    static void read() throws IOException {
        String section = "";
        for (String line : Files.readAllLines(PATH)) {
            if (line.startsWith("#")) {
                section = section(line.replaceFirst("#+ *", ""));
            } else if (!section.isEmpty() && !line.isBlank() && !line.startsWith("Ahead of the calls")) {
                addSentences(section, line);
            }
        }
    }

    /** A promise goes by its number, a part of the terms by its name; other parts are left out. */
    private static String section(String header) {
        if (header.startsWith("Promise ")) {
            return header.replaceFirst("Promise (\\d+).*", "$1");
        }
        return SECTIONS.contains(header) ? header : "";
    }

    private static void addSentences(String section, String line) {
        String told = line.replaceFirst("^- ", "").replaceFirst("^`[^`]*\\([^`]*`: ", "");
        for (String sentence : told.split("(?<=[.]) ")) {
            sentences.add(section + ": " + sentence);
        }
    }

    /** What is compared from here on is due by this sentence. */
    static void about(String section, String sentence) {
        dueSomethingCompared();
        String key = section + ": " + sentence;
        Check.due("the document says " + key, sentences.contains(key), true);
        Check.about(key);
        tested.add(key);
        comparedBefore = Check.compared();
    }

    private static void dueSomethingCompared() {
        Check.due("something is compared", Check.compared() > comparedBefore, true);
    }

    /** All sentences have a test, but those that name nothing that a test could be about. */
    static void dueAllTested(String... withoutEdge) {
        dueSomethingCompared();
        Check.about("each sentence has a test");
        Set<String> left = new LinkedHashSet<>(sentences);
        left.removeAll(tested);
        for (String one : withoutEdge) {
            Check.due("a sentence: " + one, left.remove(one), true);
        }
        Check.due("sentences without a test", left, "[]");
    }
}
