import java.util.ArrayList;
import java.util.List;
import java.util.regex.Matcher;
import java.util.regex.Pattern;

/**
 * Rule 7 of LANGUAGE.md, as far as the words of the file show it: in its own method, and ahead of its use, each index
 * is looked at against a bound, each divisor against 0, a new row's length is a constant or 0 at least, and nothing is
 * asked of an item of a row of objects where it stands, as it may be null.
 */
public final class LooksTest {
    private static final String CONSTANT = "\\d+|[A-Z][A-Z_]+( [-+] 1)?";

    public static void main(String[] args) throws Exception {
        Due due = new Due();
        int looked = 0;
        for (Source.Method method : Source.methods(Source.lines())) {
            for (String fault : faults(method.words())) {
                due.holds(method.name() + ": " + fault, false);
            }
            looked += found(method.words(), "\\w\\[\\w", 0).size();
        }
        due.holds("indices were found", looked > 100);
        ownFaults(due);
        due.end();
    }

    /** That this test sees what it is there for. */
    private static void ownFaults(Due due) {
        String[] wrong = {"a[k]", "a[b[k]]", "a[k + 1]", "if (k < 9) { a[k + 1]++; }", "a[place(k)]", "int k = i; a[k]",
            "a[k]; if (k < 9) { }", "int d = n / k;", "n % k", "Math.floorMod(n, k)", "new int[k]", "n /= k", "n %= k", "a[0].b"};
        for (String words : wrong) {
            due.is("faults of " + words, faults(words).size(), 1);
        }
        String[] right = {"a[0]", "a[MOST]", "if (k < 9) { a[k]++; }", "if (isWithin(k, 0, 8)) { a[k]++; }",
            "if (k >= x.size) { return; } a[k]++;", "for (int i = 0; i < 9; i++) { k = i; a[k]++; }", "n / DAY",
            "if (k <= 0) { return; } n / k", "for (; k != 0;) { n % k }", "int k = Math.max(n, 0); new int[k]",
            "new int[3][ROWS]"};
        for (String words : right) {
            due.is("faults of " + words, faults(words).size(), 0);
        }
    }

    private static List<String> faults(String words) {
        List<String> faults = new ArrayList<>();
        Matcher length = Pattern.compile("new \\w+((\\[[^\\]]*\\])+)").matcher(words);
        while (length.find()) {
            for (String n : found(length.group(1), "\\[([^\\]]*)\\]", 1)) {
                if (!n.matches(CONSTANT) && !words.contains("int " + n + " = Math.max(")) {
                    faults.add("the length " + n + " is not looked at");
                }
            }
        }
        String uses = words.replaceAll("new \\w+(\\[[^\\]]*\\])+", "");
        Matcher index = Pattern.compile("[\\w\\]]\\[([^\\[\\]]+)\\]").matcher(uses);
        while (index.find()) {
            String ahead = uses.substring(0, index.start());
            if (ahead.matches("(?s).*\\w\\[[\\w.]*")) {
                faults.add("an item is an index: " + index.group());
            } else if (!isBounded(index.group(1), ahead)) {
                faults.add("the index " + index.group(1) + " is not looked at");
            }
        }
        Matcher divisor = Pattern.compile("[/%]=? ([\\w.]+)|floorMod\\([^;]*, (\\w+)\\)").matcher(uses);
        while (divisor.find()) {
            String by = divisor.group(1) != null ? divisor.group(1) : divisor.group(2);
            String ahead = uses.substring(0, divisor.start());
            if (!by.matches("[1-9]\\d*|[A-Z][A-Z_]+") && !ahead.matches("(?s).*\\b" + by + " (<=|==|!=|>) 0\\b.*")) {
                faults.add("the divisor " + by + " is not looked at");
            }
        }
        for (String item : found(uses, "(\\w+\\[[^\\]]*\\]\\.\\w+)", 1)) {
            faults.add("it may be null: " + item);
        }
        return faults;
    }

    private static List<String> found(String words, String pattern, int group) {
        List<String> all = new ArrayList<>();
        Matcher m = Pattern.compile(pattern).matcher(words);
        while (m.find()) {
            all.add(m.group(group));
        }
        return all;
    }

    private static boolean isBounded(String index, String ahead) {
        return index.matches(CONSTANT) || isLooked(index, ahead) || isOfLooked(index, ahead);
    }

    private static boolean isLooked(String index, String ahead) {
        String name = Pattern.quote(index);
        return Pattern.compile("\\b" + name + " (<|<=|>|>=) |isWithin\\(" + name + ", |(has|canBe)Field\\(" + name + "\\)")
            .matcher(ahead).find();
    }

    /** A name that in its method is only ever a constant, or another one that was looked at. */
    private static boolean isOfLooked(String index, String ahead) {
        List<String> values = found(ahead, "\\b" + Pattern.quote(index) + " = ([^;]*);", 1);
        for (String value : values) {
            if (!value.matches(CONSTANT) && !isLooked(value, ahead)) {
                return false;
            }
        }
        return !values.isEmpty();
    }
}
