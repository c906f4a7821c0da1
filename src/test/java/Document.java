import java.io.IOException;
import java.nio.file.Files;
import java.nio.file.Path;
import java.util.ArrayList;
import java.util.LinkedHashMap;
import java.util.List;
import java.util.Map;

/** The sentences of the document, by the titles of its sections. */
final class Document {
    private static final Path PLACE = Path.of("../shared/DOC.md");
    private static final List<String> LEFT_OUT = List.of("The public face", "Not promised");

    private final Map<String, List<String>> sections = new LinkedHashMap<>();

    Document() throws IOException {
        String[] parts = Files.readString(PLACE).split("(?m)^## ");
        for (int part = 1; part < parts.length; part++) {
            int end = parts[part].indexOf('\n');
            String title = parts[part].substring(0, end).trim();
            if (!LEFT_OUT.contains(title)) {
                sections.put(title, sentences(parts[part].substring(end)));
            }
        }
    }

    /** Each sentence with its section in front, so that the same words in two sections are two sentences. */
    List<String> all() {
        List<String> all = new ArrayList<>();
        sections.forEach((title, sentences) -> sentences.forEach(s -> all.add(title + " > " + s)));
        return all;
    }

    private static List<String> sentences(String text) {
        List<String> all = new ArrayList<>();
        // A text that is broken by a blank line within a sentence goes on behind it.
        String whole = text.replaceAll(";\\s*\\n\\s*\\n", "; ");
        for (String part : whole.split("\\n\\s*\\n|\\n(?=- )")) {
            String line = part.trim().replaceAll("\\s+", " ").replaceFirst("^`[^`]*`: ", "");
            for (String sentence : line.split("(?<=\\.) ")) {
                if (!sentence.isEmpty() && !isBareParameter(sentence)) {
                    all.add(sentence);
                }
            }
        }
        return all;
    }

    /** The line of a parameter names an edge only where it tells what its values are. */
    private static boolean isBareParameter(String line) {
        return line.startsWith("- ") && !line.matches(".*(\\d|\\btrue\\b).*");
    }
}
