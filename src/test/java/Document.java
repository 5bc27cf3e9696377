import java.io.IOException;
import java.nio.file.Files;
import java.nio.file.Path;
import java.util.ArrayList;
import java.util.List;
import java.util.Set;
import java.util.TreeSet;

/** ../shared/DOC.md, and which of its sentences the tests hold the class to. */
final class Document {
    private static final Path PATH = Path.of("../shared/DOC.md");

    private static final Set<String> held = new TreeSet<>();

    private Document() {
    }

    static void hold(int promise, String sentence) {
        held.add(promise + " " + sentence);
    }

    static boolean isHere() {
        return Files.isReadable(PATH);
    }

    static String text() throws IOException {
        return Files.readString(PATH);
    }

    /** The sentences held by tests that the document does not have in that section. */
    static List<String> strange() throws IOException {
        Set<String> all = new TreeSet<>(sentences());
        List<String> strange = new ArrayList<>();
        for (String sentence : held) {
            if (!all.contains(sentence)) {
                strange.add(sentence);
            }
        }
        return strange;
    }

    /** The sentences of the document that name a boundary case and that no test holds. */
    static List<String> missing() throws IOException {
        List<String> missing = new ArrayList<>();
        for (String sentence : sentences()) {
            if (namesBoundary(sentence) && !held.contains(sentence)) {
                missing.add(sentence);
            }
        }
        return missing;
    }

    /** All that several promises share, every exception, and every sentence with a limit in it. */
    private static boolean namesBoundary(String sentence) {
        return sentence.startsWith("0 ") || sentence.matches("\\d+ (Throws .*|.*\\d.*)");
    }

    /** Each sentence behind the number of its promise, 0 for "Terms". */
    private static List<String> sentences() throws IOException {
        List<String> sentences = new ArrayList<>();
        int promise = -1;
        boolean isForm = false;
        for (String line : Files.readAllLines(PATH)) {
            if (line.startsWith("## ")) {
                promise = sectionOf(line);
            } else if (line.startsWith("```")) {
                isForm = !isForm;
            } else if (promise >= 0 && !isForm && !line.isBlank() && !line.startsWith("Ahead of the calls")) {
                for (String sentence : line.replaceFirst("^`[^`]*`: ", "").split("(?<=\\.)\\s+(?=[A-Z])")) {
                    addSentence(sentences, promise, sentence);
                }
            }
        }
        return sentences;
    }

    /** A title of one word, as "Votes.", is no sentence. */
    private static void addSentence(List<String> sentences, int promise, String sentence) {
        if (sentence.contains(" ")) {
            sentences.add(promise + " " + sentence);
        }
    }

    private static int sectionOf(String title) {
        if (title.equals("## Terms")) {
            return 0;
        }
        return title.startsWith("## Promise ") ? Integer.parseInt(title.replaceAll("\\D+(\\d+):.*", "$1")) : -1;
    }
}
