import java.io.IOException;
import java.io.UncheckedIOException;
import java.nio.file.Files;
import java.nio.file.Path;
import java.util.ArrayList;
import java.util.List;

/** The document's own words, so that it shows if one of its sentences is left without a test. */
final class Document {
    private static final Path PLACE = Path.of("../shared/DOC.md");
    private static final String HEADING = "## ";
    private static final String FENCE = "```";
    private static final String BEHIND_SIGNATURE = "`: ";

    private static final StringBuilder QUOTED = new StringBuilder();

    private Document() {
    }

    /** The words of the document that the next tests hold it to. */
    static void quote(String words) {
        Check.part(words);
        QUOTED.append(words).append(' ');
    }

    /** Whether what was quoted since the last section is the whole of this one. */
    static void wholeSection(String heading) {
        Check.part("quotes of " + heading);
        Check.text("its sentences", QUOTED.toString().trim(), words(section(heading)));
        QUOTED.setLength(0);
    }

    static List<String> headings() {
        List<String> all = new ArrayList<>();
        for (String line : lines(PLACE)) {
            if (line.startsWith(HEADING)) {
                all.add(line.substring(HEADING.length()));
            }
        }
        return all;
    }

    static List<String> section(String heading) {
        List<String> all = new ArrayList<>();
        boolean inside = false;
        for (String line : lines(PLACE)) {
            if (line.startsWith(HEADING)) {
                inside = line.equals(HEADING + heading);
            } else if (inside && !line.isBlank()) {
                all.add(line.strip());
            }
        }
        return all;
    }

    static List<String> lines(Path place) {
        try {
            return Files.readAllLines(place);
        } catch (IOException e) {
            throw new UncheckedIOException(e);
        }
    }

    /** Without fences, and without the signature at the head of a promise, which is the face's. */
    private static String words(List<String> section) {
        StringBuilder all = new StringBuilder();
        for (String line : section) {
            if (!line.startsWith(FENCE)) {
                int head = line.startsWith("`") ? line.indexOf(BEHIND_SIGNATURE) + BEHIND_SIGNATURE.length() : 0;
                all.append(line.substring(head)).append(' ');
            }
        }
        return all.toString().trim();
    }
}
