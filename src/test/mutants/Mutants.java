import java.net.URI;
import java.net.URL;
import java.net.URLClassLoader;
import java.nio.file.Files;
import java.nio.file.Path;
import java.util.ArrayList;
import java.util.HashMap;
import java.util.HashSet;
import java.util.LinkedHashMap;
import java.util.List;
import java.util.Map;
import java.util.Set;
import java.util.concurrent.ExecutorService;
import java.util.concurrent.Executors;
import java.util.concurrent.Future;
import java.util.concurrent.TimeUnit;
import java.util.concurrent.TimeoutException;
import java.util.regex.Matcher;
import java.util.regex.Pattern;
import javax.tools.FileObject;
import javax.tools.ForwardingJavaFileManager;
import javax.tools.JavaCompiler;
import javax.tools.JavaFileManager;
import javax.tools.JavaFileObject;
import javax.tools.SimpleJavaFileObject;
import javax.tools.ToolProvider;

/**
 * Breaks the class in one place at a time, and tells which sentences' tests fail then: which broken classes no test
 * sees, and which sentences no broken class makes fail. Not a part of .ci/run, as some changes break nothing.
 *
 * Arguments: the directory with the compiled tests, without the class itself.
 */
public final class Mutants {
    private static final Path FILE = Path.of("src/main/java/CanalTurns.java");
    private static final int SECONDS_EACH = 20, DOES_NOT_END = -1;
    private static final String[][] SWAPS = {{" < ", " <= "}, {" <= ", " < "}, {" > ", " >= "}, {" >= ", " > "},
        {" == ", " != "}, {" != ", " == "}, {" && ", " || "}, {" || ", " && "}, {" + ", " - "}, {" - ", " + "},
        {" * ", " + "}, {" / ", " * "}, {" % ", " / "}, {" += ", " = "}, {" += ", " -= "}, {" -= ", " += "},
        {" |= ", " = "}, {"true", "false"}, {"false", "true"}, {"Math.max", "Math.min"}, {"Math.min", "Math.max"},
        {"return NONE;", "return BAD;"}, {"return BAD;", "return NONE;"}, {"return STATE;", "return BAD;"},
        {"return FULL;", "return BAD;"}, {"return NOTHING;", "return PLACE;"}, {"return CAST;", "return NOTHING;"},
        {"return PLACE;", "return NOTHING;"}, {"return SIZE;", "return BAD;"}, {"return NO;", "return 0;"},
        {"return NOT_ANY;", "return NONE;"}, {"? ", "? -1 + "}, {"turnsNow()", "turnsWere(world.canal.weekHours)"},
        {"if (", "if (false && "}, {"if (", "if (true || "}};

    private record Mutant(int line, String was, String is, String source) {
        @Override
        public String toString() {
            return "line " + line + ": " + was.strip() + "  ->  " + is.strip();
        }
    }

    public static void main(String[] args) throws Exception {
        URL tests = Path.of(args[0]).toUri().toURL();
        List<String> lines = Files.readAllLines(FILE);
        List<Mutant> mutants = new ArrayList<>();
        boolean isComment = false;
        for (int i = 0; i < lines.size(); i++) {
            String line = lines.get(i);
            isComment |= line.strip().startsWith("/*");
            if (!isComment && !line.strip().startsWith("//")) {
                for (String broken : broken(line)) {
                    mutants.add(mutant(lines, i, broken));
                }
            }
            isComment &= !line.strip().endsWith("*/");
        }
        report(mutants, tests);
        System.exit(0);
    }

    private static Mutant mutant(List<String> lines, int i, String broken) {
        List<String> changed = new ArrayList<>(lines);
        changed.set(i, broken);
        return new Mutant(i + 1, lines.get(i), broken, String.join("\n", changed));
    }

    private static List<String> broken(String line) {
        List<String> all = new ArrayList<>();
        for (String[] swap : SWAPS) {
            for (int at = line.indexOf(swap[0]); at >= 0; at = line.indexOf(swap[0], at + 1)) {
                all.add(line.substring(0, at) + swap[1] + line.substring(at + swap[0].length()));
            }
        }
        Matcher number = Pattern.compile("(?<![\\w.'])\\d+(?![\\w'])").matcher(line);
        while (number.find()) {
            for (int by = -1; by <= 1; by += 2) {
                all.add(line.substring(0, number.start()) + (Integer.parseInt(number.group()) + by)
                    + line.substring(number.end()));
            }
        }
        if (line.matches(" *[\\w.\\[\\]]+( [-+|&]?= .*|\\+\\+|--|\\(.*\\));")) {
            all.add("");
        }
        return all;
    }

    private static void report(List<Mutant> mutants, URL tests) throws Exception {
        ExecutorService pool = Executors.newFixedThreadPool(Runtime.getRuntime().availableProcessors(), task -> {
            Thread thread = new Thread(task);
            thread.setDaemon(true);
            return thread;
        });
        Map<Mutant, Future<List<Integer>>> runs = new LinkedHashMap<>();
        for (Mutant mutant : mutants) {
            runs.put(mutant, pool.submit(() -> failing(mutant, tests)));
        }
        Set<Integer> seen = new HashSet<>();
        int compiled = 0;
        int unseen = 0;
        for (Mutant mutant : runs.keySet()) {
            List<Integer> failing;
            try {
                failing = runs.get(mutant).get(SECONDS_EACH, TimeUnit.SECONDS);
            } catch (TimeoutException e) {
                failing = List.of(DOES_NOT_END);
            }
            if (failing == null) {
                continue;
            }
            compiled++;
            seen.addAll(failing);
            if (failing.isEmpty()) {
                unseen++;
                System.out.println("no test sees " + mutant);
            }
        }
        List<Said.Sentence> sentences = Said.all();
        for (int i = 0; i < sentences.size(); i++) {
            if (!seen.contains(i)) {
                System.out.println("always holds: test " + i + ", " + sentences.get(i).name());
            }
        }
        System.out.println(compiled + " broken classes, " + unseen + " of them not seen");
    }

    /** Which sentences' tests fail; null, if it does not compile. */
    private static List<Integer> failing(Mutant mutant, URL tests) throws Exception {
        Map<String, byte[]> classes = compiled(mutant.source());
        if (classes == null) {
            return null;
        }
        try (URLClassLoader loader = new OneClass(tests, classes)) {
            Class<?> runner = loader.loadClass("Failing");
            return List.of((Integer[]) runner.getDeclaredMethod("numbers").invoke(null));
        }
    }

    /** Loads the tests anew, with the broken class. */
    private static final class OneClass extends URLClassLoader {
        private final Map<String, byte[]> classes;

        OneClass(URL tests, Map<String, byte[]> classes) {
            super(new URL[] {tests}, ClassLoader.getPlatformClassLoader());
            this.classes = classes;
        }

        @Override
        protected Class<?> findClass(String name) throws ClassNotFoundException {
            byte[] bytes = classes.get(name);
            return bytes == null ? super.findClass(name) : defineClass(name, bytes, 0, bytes.length);
        }
    }

    private static Map<String, byte[]> compiled(String source) {
        JavaCompiler compiler = ToolProvider.getSystemJavaCompiler();
        Map<String, java.io.ByteArrayOutputStream> made = new HashMap<>();
        JavaFileManager files = new ForwardingJavaFileManager<>(compiler.getStandardFileManager(null, null, null)) {
            @Override
            public JavaFileObject getJavaFileForOutput(Location where, String name, JavaFileObject.Kind kind,
                    FileObject sibling) {
                made.put(name, new java.io.ByteArrayOutputStream());
                return new SimpleJavaFileObject(URI.create("made:///" + name), kind) {
                    @Override
                    public java.io.OutputStream openOutputStream() {
                        return made.get(name);
                    }
                };
            }
        };
        JavaFileObject file = new SimpleJavaFileObject(URI.create("source:///CanalTurns.java"),
                JavaFileObject.Kind.SOURCE) {
            @Override
            public CharSequence getCharContent(boolean ignored) {
                return source;
            }
        };
        List<String> options = List.of("-nowarn", "-proc:none");
        if (!compiler.getTask(java.io.Writer.nullWriter(), files, d -> { }, options, null, List.of(file)).call()) {
            return null;
        }
        Map<String, byte[]> classes = new HashMap<>();
        made.forEach((name, bytes) -> classes.put(name, bytes.toByteArray()));
        return classes;
    }
}
