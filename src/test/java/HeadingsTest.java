import java.io.IOException;
import java.nio.file.Files;
import java.nio.file.Path;
import java.util.LinkedHashMap;
import java.util.Map;
import java.util.regex.Matcher;
import java.util.regex.Pattern;

/** Ahead of each group of calls the class says what the document says there. */
final class HeadingsTest {
    private static final String SAYS = " the interface says: ";
    private static final Pattern CALL = Pattern.compile("    public \\w+ (\\w+)\\(.*");

    static void run(Bounds bounds) {
        Map<String, String> headings = headings();
        for (String sentence : Document.sentences()) {
            if (sentence.contains(SAYS)) {
                String heading = sentence.substring(sentence.indexOf(SAYS) + SAYS.length()).replaceAll("[.]$", "");
                bounds.sentence("Terms", sentence.substring(sentence.indexOf("Ahead")));
                for (String call : Document.quoted(sentence)) {
                    bounds.due(call, heading, () -> headings.get(call));
                }
            }
        }
    }

    /** The last comment of such a kind ahead of each public call. */
    private static Map<String, String> headings() {
        Map<String, String> headings = new LinkedHashMap<>();
        String heading = "";
        for (String line : source().split("\n")) {
            Matcher call = CALL.matcher(line);
            if (line.startsWith("    // ---- ")) {
                heading = line.substring("    // ".length());
            } else if (call.matches()) {
                headings.put(call.group(1), heading);
            }
        }
        return headings;
    }

    private static String source() {
        try {
            return Files.readString(Path.of("src/main/java/PackageForge.java"));
        } catch (IOException e) {
            throw new IllegalStateException(e);
        }
    }
}
