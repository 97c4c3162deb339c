import java.io.IOException;
import java.nio.file.Files;
import java.nio.file.Path;
import java.util.BitSet;
import java.util.LinkedHashMap;
import java.util.Map;

/** The document's sections, and which of their words were quoted. */
final class Document {
    private final Map<String, StringBuilder> sections = new LinkedHashMap<>();
    private final Map<String, BitSet> quoted = new LinkedHashMap<>();

    /** Runs where .ci/run runs it: at the project's root. */
    Document() throws IOException {
        StringBuilder section = new StringBuilder();
        for (String line : Files.readAllLines(Path.of("../shared/DOC.md"))) {
            String words = line;
            if (line.startsWith("## ")) {
                section = open(line.substring(3));
                words = "";
            } else if (line.startsWith("==== ")) {
                section = open("Terms " + line.charAt(5));
                words = line.substring(6);
            } else if (line.startsWith("Answers: ")) {
                section = open("Answers");
            } else if (line.startsWith("```")) {
                words = "";
            } else if (line.startsWith("`")) {
                // How the call is written, which FaceTest looks at.
                words = line.substring(line.indexOf("`: ") + 3);
            }
            section.append(words.strip()).append(' ');
        }
    }

    private StringBuilder open(String name) {
        quoted.put(name, new BitSet());
        sections.put(name, new StringBuilder());
        return sections.get(name);
    }

    /** Whether the words stand there. Those that stand there twice are quoted once, where they weren't yet. */
    boolean isQuoted(String section, String words) {
        if (!sections.containsKey(section)) {
            return false;
        }
        String text = sections.get(section).toString();
        BitSet marks = quoted.get(section);
        int first = text.indexOf(words);
        int at = first;
        while (at >= 0 && marks.nextClearBit(at) >= at + words.length()) {
            at = text.indexOf(words, at + 1);
        }
        int from = at >= 0 ? at : first;
        if (from >= 0) {
            marks.set(from, from + words.length());
        }
        return from >= 0;
    }

    /** The Terms, the lines on the answers behind them, and the promises: all that can be broken. */
    Iterable<String> sections() {
        return sections.keySet().stream().filter(s -> s.matches("Terms \\d|Answers|Promise .*")).toList();
    }

    /** The first word that nobody quoted; empty, if all were. */
    String unquoted(String section) {
        String text = sections.get(section).toString();
        BitSet marks = quoted.get(section);
        for (int i = marks.nextClearBit(0); i < text.length(); i = marks.nextClearBit(i + 1)) {
            if (Character.isLetterOrDigit(text.charAt(i))) {
                return text.substring(i, Math.min(text.length(), i + 60));
            }
        }
        return "";
    }
}
