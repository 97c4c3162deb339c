import java.lang.reflect.Method;
import java.lang.reflect.Modifier;
import java.util.ArrayList;
import java.util.Arrays;
import java.util.Comparator;
import java.util.List;
import java.util.Random;

/** All promises: runs of drawn calls, each answered by the class as by PlainModel. The seeds are fixed. */
public final class RandomRunsTest {
    private static final String[] CLAUSES = {"f12", "f01", "f39", "f23", "f00", "f41", "c012", "c1925", "c2026", "c430",
        "h8", "h07", "h96", "h31", "h97", "u1", "u2", "u3", "u4", "a0", "a1", "a5", "p0", "p1", "p9"};
    private static final String SIGNS = "fchuap0123456789;; x";

    public static void main(String[] args) throws Exception {
        Due due = new Due();
        List<Method> calls = new ArrayList<>();
        for (Method m : CanalTurns.class.getDeclaredMethods()) {
            if (Modifier.isPublic(m.getModifiers())) {
                calls.add(m);
            }
        }
        calls.sort(Comparator.comparing(Method::getName));
        due.is("calls of the face", calls.size(), 40);
        for (int seed = 0; seed < 600; seed++) {
            run(due, calls, new Random(seed), seed);
        }
        due.end();
    }

    private static void run(Due due, List<Method> calls, Random random, int seed) throws Exception {
        CanalTurns x = new CanalTurns();
        PlainModel model = new PlainModel();
        int fields = random.nextInt(9);
        for (int i = 0; i < fields; i++) {
            int reach = random.nextInt(4);
            int share = 1 + random.nextInt(9);
            due.is("field", x.field(reach, share), model.field(reach, share));
        }
        // In some runs little is told anew, so that TRADES, SEEN, PLAN and BOOK grow.
        boolean isCalm = seed % 2 == 0;
        int n = 0;
        while (n < 480) {
            Method call = calls.get(random.nextInt(calls.size()));
            if (call.getName().equals("feed")) {
                n += text(due, x, model, random, seed);
                continue;
            }
            if (isCalm && isTellingAnew(call.getName()) && random.nextInt(20) != 0) {
                continue;
            }
            Object[] drawn = new Object[call.getParameterCount()];
            for (int i = 0; i < drawn.length; i++) {
                drawn[i] = draw(call, i, random);
            }
            Method same = PlainModel.class.getMethod(call.getName(), call.getParameterTypes());
            long want = ((Number) same.invoke(model, drawn)).longValue();
            due.is("seed " + seed + " call " + n + ": " + call.getName() + Arrays.toString(drawn),
                ((Number) call.invoke(x, drawn)).longValue(), want);
            n++;
        }
    }

    private static boolean isTellingAnew(String name) {
        return List.of("field", "renew", "absent", "reach", "hours", "rule", "pass", "read", "undo", "undoTrade")
            .contains(name);
    }

    private static int text(Due due, CanalTurns x, PlainModel model, Random random, int seed) {
        StringBuilder text = new StringBuilder();
        int clauses = random.nextInt(14);
        for (int i = 0; i < clauses; i++) {
            text.append(i > 0 ? ";" : "").append(CLAUSES[random.nextInt(CLAUSES.length)]);
        }
        if (random.nextInt(3) == 0 && text.length() > 0) {
            text.setCharAt(random.nextInt(text.length()), SIGNS.charAt(random.nextInt(SIGNS.length())));
        }
        if (random.nextInt(6) == 0) {
            text.append(SIGNS.charAt(random.nextInt(SIGNS.length())));
        }
        for (int i = 0; i < text.length(); i++) {
            due.is("seed " + seed + " feed", x.feed(text.charAt(i)), model.feed(text.charAt(i)));
        }
        due.is("seed " + seed + " read " + text, x.read(), model.read());
        return text.length() + 1;
    }

    private static Object draw(Method call, int i, Random random) {
        Class<?> type = call.getParameterTypes()[i];
        if (type == boolean.class) {
            return random.nextBoolean();
        }
        if (type == long.class) {
            return random.nextInt(4) == 0 ? random.nextLong() : (long) (random.nextInt(300) - 100);
        }
        int[] edges = {-2, -1, 10, 25, 26, 52, 53, 60, 61, 95, 96, 97, 127, 128, 999, 1000, Integer.MAX_VALUE,
            Integer.MIN_VALUE};
        int kind = random.nextInt(24);
        if (kind == 0) {
            return edges[random.nextInt(edges.length)];
        }
        boolean isHours = call.getName().equals("hours") || call.getName().equals("who")
            || call.getName().equals("plan") && i == 1 || call.getName().equals("shared") && i == 0;
        if (isHours && kind < 14) {
            return random.nextInt(97);
        }
        if (call.getName().equals("pass") || call.getName().equals("tape") && i == 2) {
            return random.nextInt(kind < 4 ? 62 : 12);
        }
        if ((call.getName().equals("told") || call.getName().equals("uneven") || call.getName().equals("over"))) {
            return kind < 4 ? random.nextInt(14) : i == 2 ? random.nextInt(2) : random.nextInt(8);
        }
        return kind < 4 ? random.nextInt(30) - 2 : kind < 16 ? random.nextInt(5) : random.nextInt(10);
    }
}
