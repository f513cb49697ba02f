import java.io.IOException;
import java.nio.charset.StandardCharsets;
import java.nio.file.Files;
import java.nio.file.Path;
import java.util.ArrayList;
import java.util.LinkedHashMap;
import java.util.List;
import java.util.Map;

/** The document by its sections, and which of its words a test has quoted. */
final class Book {
    private static final Path DOCUMENT = Path.of("..", "shared", "DOC.md");

    private final Map<String, String> texts = new LinkedHashMap<>();
    private final Map<String, boolean[]> quoted = new LinkedHashMap<>();

    Book() throws IOException {
        String[] parts = Files.readString(DOCUMENT, StandardCharsets.UTF_8).split("(?m)^## ");
        for (int i = 1; i < parts.length; i++) {
            int head = parts[i].indexOf('\n');
            String text = plain(parts[i].substring(head));
            texts.put(title(parts[i].substring(0, head)), text);
            quoted.put(title(parts[i].substring(0, head)), new boolean[text.length()]);
        }
    }

    /** "Promise 2: school" is told by its number alone. */
    private static String title(String head) {
        return head.startsWith("Promise ") ? head.split(":")[0] : head.trim();
    }

    /** Without the heads of the members (FaceTest has them), the fences and the numbers of the parts. */
    private static String plain(String text) {
        String bare = text.replaceAll("```\\w*", " ").replaceAll("==== \\d", " ")
            .replaceAll("(?m)^`[^`]*\\([^`]*\\)[^`]*`:", " ");
        return bare.replaceAll("\\s+", " ").trim();
    }

    /** Where the words stand in the section, those that are quoted by nobody yet first; false if nowhere. */
    boolean quote(String section, String words) {
        String text = texts.getOrDefault(section, "");
        int found = -1;
        for (int at = text.indexOf(words); at >= 0; at = text.indexOf(words, at + 1)) {
            if (found < 0 || quoted.get(section)[found] && !quoted.get(section)[at]) {
                found = at;
            }
        }
        for (int i = found; found >= 0 && i < found + words.length(); i++) {
            quoted.get(section)[i] = true;
        }
        return found >= 0;
    }

    List<String> promises() {
        List<String> titles = new ArrayList<>();
        for (String title : texts.keySet()) {
            if (title.startsWith("Promise ")) {
                titles.add(title);
            }
        }
        return titles;
    }

    /** Stretches of the section with a letter or a digit in them that no test has quoted. */
    List<String> unquoted(String section) {
        List<String> left = new ArrayList<>();
        String text = texts.getOrDefault(section, "(no such section)");
        boolean[] told = quoted.getOrDefault(section, new boolean[text.length()]);
        int from = 0;
        for (int i = 0; i <= text.length(); i++) {
            if (i == text.length() || told[i]) {
                String stretch = text.substring(from, i);
                if (stretch.matches(".*[A-Za-z0-9].*")) {
                    left.add(stretch);
                }
                from = i + 1;
            }
        }
        return left;
    }
}
