import java.io.IOException;
import java.nio.file.Files;
import java.nio.file.Path;
import java.util.ArrayList;
import java.util.List;
import java.util.Map;
import java.util.TreeMap;

/**
 * The sentences of ../shared/DOC.md that the tests quote. So a test that quotes what the document
 * does not say, and a range or a throw that no test quotes, are found.
 */
final class Doc {
    private static final Path FILE = Path.of("..", "shared", "DOC.md");
    private static final Map<String, String> sections = read();

    private Doc() {
    }

    /** Without the document there is nothing to be held against it. */
    static boolean isHere() {
        return !sections.isEmpty();
    }

    static boolean says(String heading, String quote) {
        for (Map.Entry<String, String> section : sections.entrySet()) {
            if (section.getKey().split(":")[0].equals(heading)) {
                return section.getValue().contains(quote);
            }
        }
        return false;
    }

    /** The lines of all promises that tell of an argument or of a throw, each behind its heading. */
    static List<String> argumentsAndThrows() {
        List<String> found = new ArrayList<>();
        for (Map.Entry<String, String> section : sections.entrySet()) {
            for (String line : section.getValue().split("\n")) {
                if (line.startsWith("- `") || line.startsWith("Throws ")) {
                    found.add(section.getKey().split(":")[0] + ": " + line);
                }
            }
        }
        return found;
    }

    private static Map<String, String> read() {
        Map<String, String> all = new TreeMap<>();
        if (!Files.isReadable(FILE)) {
            return all;
        }
        try {
            for (String section : ("\n" + Files.readString(FILE)).split("\n## ")) {
                int end = section.indexOf('\n');
                all.put(end < 0 ? section : section.substring(0, end), end < 0 ? "" : section.substring(end));
            }
        } catch (IOException e) {
            throw new IllegalStateException("../shared/DOC.md cannot be read", e);
        }
        return all;
    }
}
