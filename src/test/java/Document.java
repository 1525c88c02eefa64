import java.io.IOException;
import java.nio.file.Files;
import java.nio.file.Path;
import java.util.ArrayList;
import java.util.LinkedHashSet;
import java.util.List;
import java.util.Set;

/** The document's lines, and its sentences, each as "section | sentence". */
final class Document {
    private Document() {
    }

    static List<String> lines() {
        try {
            return Files.readAllLines(Path.of("../shared/DOC.md"));
        } catch (IOException e) {
            throw new IllegalStateException(e);
        }
    }

    static String inSection(String section, String sentence) {
        return section + " | " + sentence;
    }

    /** The sentences from "What it is" to the last promise, without labels and the public face. */
    static Set<String> sentences() {
        Set<String> sentences = new LinkedHashSet<>();
        String section = "";
        boolean isCode = false;
        for (String line : lines()) {
            if (line.startsWith("```")) {
                isCode = !isCode;
            } else if (line.startsWith("#")) {
                section = line.replaceAll("^#+ ", "").replaceAll(":.*", "");
            } else if (!isCode && isHeld(section)) {
                addSentences(sentences, section, line);
            }
        }
        return sentences;
    }

    private static boolean isHeld(String section) {
        return section.equals("What it is") || section.equals("Terms") || section.startsWith("Promise ");
    }

    private static void addSentences(Set<String> sentences, String section, String line) {
        String words = line.replaceAll("^`[^`]*`: (?=[A-Z])", "").replaceAll("^- ", "");
        for (String sentence : words.split("(?<=[.]) ")) {
            if (sentence.contains(" ")) {
                sentences.add(inSection(section, sentence));
            }
        }
    }

    /** What stands between backquotes. */
    static List<String> quoted(String sentence) {
        List<String> names = new ArrayList<>();
        String[] parts = sentence.split("`");
        for (int i = 1; i < parts.length; i += 2) {
            names.add(parts[i]);
        }
        return names;
    }
}
