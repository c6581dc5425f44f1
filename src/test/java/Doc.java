import java.io.IOException;
import java.nio.file.Files;
import java.nio.file.Path;
import java.util.ArrayList;
import java.util.LinkedHashMap;
import java.util.List;
import java.util.Map;
import java.util.TreeSet;

/** The document's sections as running text, and which of their sentences were quoted. */
final class Doc {
    private final Map<String, String> sections = new LinkedHashMap<>();
    private final Map<String, boolean[]> quoted = new LinkedHashMap<>();

    Doc(Path file) throws IOException {
        String name = "";
        StringBuilder text = new StringBuilder();
        for (String line : Files.readAllLines(file)) {
            if (line.startsWith("## ")) {
                close(name, text);
                name = line.substring(3).replaceAll(":.*", "");
                text.setLength(0);
            } else if (!isHeading(line)) {
                text.append(withoutMarks(line)).append(' ');
            }
        }
        close(name, text);
    }

    /** What stands between the sentences: where a listing begins, which calls an interface groups. */
    private static boolean isHeading(String line) {
        return line.startsWith("```") || line.startsWith("Ahead of the calls");
    }

    private static String withoutMarks(String line) {
        return line.replaceFirst("^======== ([0-9] )?", "").replaceFirst("^`[^`]*`: ", "").trim();
    }

    private void close(String name, StringBuilder text) {
        String running = text.toString().replaceAll("\\s+", " ").trim();
        sections.put(name, running);
        quoted.put(name, new boolean[running.length()]);
    }

    /** Whether a sentence stands in a section; then it counts as quoted. */
    boolean quotes(String section, String sentence) {
        String text = sections.getOrDefault(section, "");
        boolean stands = false;
        for (int at = text.indexOf(sentence); at >= 0; at = text.indexOf(sentence, at + 1)) {
            stands = true;
            for (int i = at; i < at + sentence.length(); i++) quoted.get(section)[i] = true;
        }
        return stands;
    }

    TreeSet<String> names() {
        return new TreeSet<>(sections.keySet());
    }

    /** What of a section no test has quoted. */
    List<String> left(String section) {
        String text = sections.get(section);
        boolean[] marks = quoted.get(section);
        List<String> left = new ArrayList<>();
        StringBuilder run = new StringBuilder();
        for (int i = 0; i <= text.length(); i++) {
            if (i < text.length() && !marks[i]) {
                run.append(text.charAt(i));
            } else {
                if (!run.toString().isBlank()) left.add(run.toString().trim());
                run.setLength(0);
            }
        }
        return left;
    }
}
