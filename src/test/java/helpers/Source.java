import java.io.IOException;
import java.nio.file.Files;
import java.nio.file.Path;
import java.util.ArrayList;
import java.util.List;

/** The file of the class, as it is written. Runs where .ci/run runs it: at the project's root. */
final class Source {
    private static final Path FILE = Path.of("src/main/java/CanalTurns.java");

    /** The words stand from its head to its end, without comments; the lines are counted from 1. */
    record Method(int firstLine, int lastLine, String words) {
        String name() {
            return "lines " + firstLine + " to " + lastLine;
        }
    }

    private Source() {
    }

    static List<String> lines() throws IOException {
        return Files.readAllLines(FILE);
    }

    static String withoutComments(String code) {
        return code.replaceAll("(?s)/\\*.*?\\*/", "").replaceAll("//[^\n]*", "");
    }

    /** Methods and constructors of the class stand 4 in, those of the classes inside 8 in. */
    static List<Method> methods(List<String> lines) {
        List<Method> methods = new ArrayList<>();
        for (int i = 0; i < lines.size(); i++) {
            String line = lines.get(i);
            boolean isMethod = line.matches("( {4}| {8})[A-Za-z].*\\(.*\\) \\{")
                && !line.matches(" *(if|for|while|switch)\\b.*");
            if (isMethod) {
                String end = line.replaceAll("^( *).*", "$1}");
                int last = i;
                while (last < lines.size() - 1 && !lines.get(last).equals(end)) {
                    last++;
                }
                String words = withoutComments(String.join("\n", lines.subList(i, last + 1)));
                methods.add(new Method(i + 1, last + 1, words));
            }
        }
        return methods;
    }
}
