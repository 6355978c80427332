import java.io.IOException;
import java.nio.file.Files;
import java.nio.file.Path;

/** The document, so that tests name only what stands in it. */
final class Document {
    private static final Path FILE = Path.of("../shared/DOC.md");
    private static final String TEXT = read();

    private Document() {
    }

    private static String read() {
        try {
            return Files.exists(FILE) ? Files.readString(FILE) : "";
        } catch (IOException e) {
            return "";
        }
    }

    /** Whether it has these words under a heading, or below it; a test that is run elsewhere does not ask. */
    static boolean has(String heading, String words) {
        if (TEXT.isEmpty()) {
            return true;
        }
        StringBuilder under = new StringBuilder();
        int depth = 0;
        for (String line : TEXT.split("\n")) {
            int level = levelOf(line);
            if (depth > 0 && level > 0 && level <= depth) {
                depth = 0;
            }
            if (depth == 0 && level > 0 && line.replace("#", "").trim().matches(heading + "(:.*)?")) {
                depth = level;
            }
            under.append(depth > 0 ? line + "\n" : "");
        }
        return under.indexOf(words) >= 0;
    }

    /** 1 to 2 as the line has signs "#", 3 for a short line without a full stop, 0 if it is no heading. */
    private static int levelOf(String line) {
        if (line.startsWith("#")) {
            return line.indexOf(' ');
        }
        return line.matches("[A-Z][a-z, ]+") ? 3 : 0;
    }
}
