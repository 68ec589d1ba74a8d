import java.io.IOException;
import java.nio.charset.StandardCharsets;
import java.nio.file.Files;
import java.nio.file.Path;
import java.util.ArrayList;
import java.util.List;

/** README.md as the tests read it: what it shows between fences, and its tables. */
final class Readme {
    private static final Path README = Path.of("README.md");

    private Readme() {
    }

    private static List<String> lines() {
        try {
            return Files.readAllLines(README, StandardCharsets.UTF_8);
        } catch (IOException e) {
            throw new IllegalStateException("README.md can't be read", e);
        }
    }

    /** The lines within all fences of a kind, in their order. */
    static List<String> shown(String kind) {
        List<String> shown = new ArrayList<>();
        boolean within = false;
        for (String line : lines()) {
            if (line.startsWith("```")) {
                within = !within && line.equals("```" + kind);
            } else if (within) {
                shown.add(line);
            }
        }
        return shown;
    }

    /** The first column of the table with this heading. */
    static List<String> column(String heading) {
        List<String> column = new ArrayList<>();
        boolean within = false;
        for (String line : lines()) {
            String cell = line.startsWith("|") ? line.split("\\|")[1].trim() : "";
            if (cell.equals(heading)) {
                within = true;
            } else if (cell.isEmpty()) {
                within = false;
            } else if (within && !cell.startsWith("---")) {
                column.add(cell);
            }
        }
        return column;
    }
}
