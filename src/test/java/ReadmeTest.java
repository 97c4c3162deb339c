import java.net.URL;
import java.net.URLClassLoader;
import java.nio.file.Files;
import java.nio.file.Path;
import java.util.List;
import java.util.Set;
import java.util.TreeSet;
import java.util.regex.MatchResult;
import java.util.regex.Pattern;
import java.util.stream.Collectors;
import java.util.stream.Stream;
import javax.tools.ToolProvider;

/** README.md's own words: its example answers what it says, and its tests and commands are those that there are. */
public final class ReadmeTest {
    private static final Path TESTS = Path.of("src/test/java");

    public static void main(String[] args) throws Exception {
        Due due = new Due();
        String readme = Files.readString(Path.of("README.md"));
        example(due, readme);
        commands(due, readme);
        tests(due, readme);
        promises(due, readme);
        due.end();
    }

    private static List<String> found(String text, String pattern) {
        return Pattern.compile(pattern).matcher(text).results().map((MatchResult m) -> m.group(1)).toList();
    }

    /** What a line tells behind // ahead of a colon is what its name is then. */
    private static void example(Due due, String readme) throws Exception {
        List<String> blocks = found(readme, "(?s)```java\n(.*?)```");
        due.is("examples", blocks.size(), 1);
        String told = blocks.get(0).replaceAll("(?m)^(int|long) (\\w+) = (.*); +// (-?\\d+): .*$",
            "$1 $2 = $3; told.append($2 == $4 ? \"\" : \"$2 is \" + $2 + \", not $4; \"); count++;");
        due.is("lines of it that tell nothing", found(told, "(?m)(^(?:int|long) (?!.*count\\+\\+;).*$)").size(), 0);
        Path dir = Files.createTempDirectory("readme");
        Path file = dir.resolve("Example.java");
        Files.writeString(file, "public final class Example { public static String told() {\n"
            + "StringBuilder told = new StringBuilder(); int count = 0;\n" + told
            + "\nreturn told.append(count).toString(); } }\n");
        int end = ToolProvider.getSystemJavaCompiler().run(null, null, null, "-cp",
            System.getProperty("java.class.path"), "-d", dir.toString(), file.toString());
        due.is("compiling the example", end, 0);
        if (end == 0) {
            try (URLClassLoader loader = new URLClassLoader(new URL[] {dir.toUri().toURL()})) {
                String answer = (String) loader.loadClass("Example").getMethod("told").invoke(null);
                due.holds("the example: " + answer, answer.matches("[1-9]\\d*"));
            }
        }
        try (Stream<Path> left = Files.list(dir)) {
            for (Path each : left.toList()) {
                Files.delete(each);
            }
        }
        Files.delete(dir);
    }

    private static void commands(Due due, String readme) {
        List<String> commands = found(readme, "```sh\n(.*)\n```");
        due.holds("the tests' command", commands.contains(".ci/run"));
        for (String command : commands) {
            due.holds(command + " can be run", Files.isExecutable(Path.of(command)));
        }
        for (String path : found(readme, "`((?:src|\\.ci|\\.\\./shared)/[^`*]*)`")) {
            due.holds(path + " is there", Files.exists(Path.of(path)));
        }
    }

    private static void tests(Due due, String readme) throws Exception {
        Set<String> there;
        try (Stream<Path> files = Files.list(TESTS)) {
            there = files.map(f -> f.getFileName().toString()).filter(f -> f.endsWith("Test.java"))
                .map(f -> f.replace(".java", "")).collect(Collectors.toCollection(TreeSet::new));
        }
        Set<String> told = new TreeSet<>();
        for (String row : found(readme, "(?m)^\\| (`.*`) \\|")) {
            told.addAll(found(row, "`(\\w+)`"));
        }
        due.holds("the table's tests " + told + " are " + there, told.equals(there));
    }

    /** Each promise has a test that is told to be its own, beside those of all. */
    private static void promises(Due due, String readme) {
        Set<Integer> told = new TreeSet<>();
        for (String cell : found(readme, "(?m)^\\| `.*` \\| (\\d.*) \\|$")) {
            for (String part : found(cell.replaceAll(", [a-z].*", ""), "(\\d+(?: to \\d+)?)")) {
                List<String> ends = found(part, "(\\d+)");
                for (int p = Integer.parseInt(ends.get(0)); p <= Integer.parseInt(ends.get(ends.size() - 1)); p++) {
                    told.add(p);
                }
            }
        }
        due.is("promises with a test of their own", told.size(), 41);
        due.holds("they are 1 to 41", told.contains(1) && told.contains(41));
    }
}
