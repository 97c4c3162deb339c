import java.nio.file.Files;
import java.nio.file.Path;
import java.util.List;
import java.util.regex.Matcher;
import java.util.regex.Pattern;

/** What of LANGUAGE.md can be seen in the words of the file. Runs where .ci/run runs it: at the project's root. */
public final class LanguageTest {
    private static final String[] FORBIDDEN = {"\\bthrow\\b", "\\bthrows\\b", "\\btry\\b", "\\bcatch\\b",
        "\\bfinally\\b", "\\bsynchronized\\b", "\\bassert\\b", "\\bimport\\b", "\\bpackage\\b", "->", "::",
        "\\bprotected\\b", "\\bvolatile\\b", "\\btransient\\b", "\\bnative\\b", "\\byield\\b", "\\bvar\\b",
        "\\bObject\\b", "\\bThread\\b", "\\bException\\b", "\\w+Exact\\b", "\\bhashCode\\b", "\\btoString\\b",
        "static \\{", "\\bfloat\\b", "\\bdouble\\b", "\\bnew \\w+\\([^)]*\\) \\{"};
    private static final String[] LIBRARY = {"System.arraycopy", "Math.max", "Math.min", "Math.floorMod",
        "Long.MIN_VALUE"};

    public static void main(String[] args) throws Exception {
        Due due = new Due();
        Path file = Path.of("src/main/java/CanalTurns.java");
        byte[] bytes = Files.readAllBytes(file);
        for (byte b : bytes) {
            due.holds("a sign of 1 to 127", b > 0);
        }
        String code = new String(bytes, "US-ASCII").replaceAll("(?s)/\\*.*?\\*/", "").replaceAll("//[^\n]*", "");
        for (String word : FORBIDDEN) {
            Matcher m = Pattern.compile(word).matcher(code);
            due.holds("the file has " + word, !m.find());
        }
        Matcher m = Pattern.compile("\\b[A-Z][a-z]+\\.\\w+").matcher(code);
        while (m.find()) {
            due.holds("the library: " + m.group(), List.of(LIBRARY).contains(m.group()));
        }
        lengths(due, Files.readAllLines(file));
        due.end();
    }

    /** Methods of the class stand 4 in, those of the classes inside 8 in. */
    private static void lengths(Due due, List<String> lines) {
        int methods = 0;
        for (int i = 0; i < lines.size(); i++) {
            String line = lines.get(i);
            due.holds("line " + (i + 1) + " is too long", line.length() <= 120);
            boolean isMethod = line.matches("( {4}| {8})[A-Za-z].*\\(.*\\) \\{")
                && !line.matches(" *(if|for|while|switch)\\b.*");
            if (isMethod) {
                methods++;
                String end = line.replaceAll("^( *).*", "$1}");
                int last = i;
                while (last < lines.size() && !lines.get(last).equals(end)) {
                    last++;
                }
                due.holds("lines " + (i + 1) + " to " + (last + 1) + " are a long method", last - i < 60);
            }
        }
        due.holds("methods were found", methods > 80);
    }
}
