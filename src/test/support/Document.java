import java.io.IOException;
import java.io.UncheckedIOException;
import java.nio.file.Files;
import java.nio.file.Path;
import java.util.ArrayList;
import java.util.List;

/** The document's own words, so that a test can tell whether it has all of them. */
final class Document {
    private static final Path PLACE = Path.of("../shared/DOC.md");

    private Document() {
    }

    /** The names of its sections, in their order. */
    static List<String> sections() {
        List<String> names = new ArrayList<>();
        for (String line : lines()) {
            if (line.startsWith("## ")) {
                names.add(line.substring(3));
            }
        }
        return names;
    }

    /** The lines of one section. */
    static List<String> section(String name) {
        List<String> found = new ArrayList<>();
        boolean inside = false;
        for (String line : lines()) {
            if (line.startsWith("## ")) {
                inside = line.equals("## " + name);
            } else if (inside) {
                found.add(line);
            }
        }
        return found;
    }

    /** The sentences of one section, without the method's head that a promise begins with. */
    static List<String> sentences(String name) {
        String text = String.join(" ", section(name)).strip().replaceFirst("^`[^`]*`: ", "");
        // A full stop may be the second point of "1, 2, ..": what ends a sentence is the capital letter behind it.
        return List.of(text.split("(?<=\\.)\\s+(?=[A-Z])"));
    }

    private static List<String> lines() {
        try {
            return Files.readAllLines(PLACE);
        } catch (IOException e) {
            throw new UncheckedIOException(e);
        }
    }
}
