import java.util.List;
import java.util.regex.Matcher;
import java.util.regex.Pattern;

/** What of LANGUAGE.md can be seen in the words of the file. */
public final class LanguageTest {
    private static final String[] FORBIDDEN = {"\\bthrow\\b", "\\bthrows\\b", "\\btry\\b", "\\bcatch\\b",
        "\\bfinally\\b", "\\bsynchronized\\b", "\\bassert\\b", "\\bimport\\b", "\\bpackage\\b", "->", "::",
        "\\bprotected\\b", "\\bvolatile\\b", "\\btransient\\b", "\\bnative\\b", "\\byield\\b", "\\bvar\\b",
        "\\bObject\\b", "\\bThread\\b", "\\bException\\b", "\\w+Exact\\b", "\\bhashCode\\b", "\\btoString\\b",
        "static \\{", "\\bfloat\\b", "\\bdouble\\b", "\\bnew \\w+\\([^)]*\\) \\{"};
    private static final String[] LIBRARY = {"System.arraycopy", "Math.max", "Math.min", "Math.floorMod",
        "Long.MIN_VALUE"};

    public static void main(String[] args) throws Exception {
        Due due = new Due();
        List<String> lines = Source.lines();
        String file = String.join("\n", lines);
        for (int i = 0; i < file.length(); i++) {
            due.holds("a sign of 1 to 127", file.charAt(i) > 0 && file.charAt(i) < 128);
        }
        String code = Source.withoutComments(file);
        for (String word : FORBIDDEN) {
            Matcher m = Pattern.compile(word).matcher(code);
            due.holds("the file has " + word, !m.find());
        }
        Matcher m = Pattern.compile("\\b[A-Z][a-z]+\\.\\w+").matcher(code);
        while (m.find()) {
            due.holds("the library: " + m.group(), List.of(LIBRARY).contains(m.group()));
        }
        lengths(due, lines);
        due.end();
    }

    private static void lengths(Due due, List<String> lines) {
        for (int i = 0; i < lines.size(); i++) {
            due.holds("line " + (i + 1) + " is too long", lines.get(i).length() <= 120);
        }
        List<Source.Method> methods = Source.methods(lines);
        for (Source.Method method : methods) {
            due.holds(method.name() + " are a long method", method.lastLine() - method.firstLine() < 60);
        }
        due.holds("methods were found", methods.size() > 80);
    }
}
