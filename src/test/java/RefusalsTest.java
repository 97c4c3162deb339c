import java.lang.reflect.Method;
import java.lang.reflect.Modifier;
import java.util.ArrayList;
import java.util.Arrays;
import java.util.List;
import java.util.Set;

/** For any arguments no call throws; what is refused or asked changes nothing. */
public final class RefusalsTest {
    private static final Set<String> ASKED = Set.of("reachOf", "of", "turn", "lag", "line", "who", "shared", "told",
        "tradeOf", "chain", "over", "uneven", "evenest", "fits", "odds", "mean", "ends", "looked", "judge", "count",
        "peek");
    private static final int[] NUMBERS = {Integer.MIN_VALUE, -2, -1, 0, 1, 2, 3, 8, 13, 97, 1000, Integer.MAX_VALUE};
    private static final long[] LONGS = {Long.MIN_VALUE, -1, 0, 1, Long.MAX_VALUE};

    public static void main(String[] args) throws Exception {
        Due due = new Due();
        for (Method call : CanalTurns.class.getDeclaredMethods()) {
            if (Modifier.isPublic(call.getModifiers())) {
                List<Object[]> all = new ArrayList<>();
                combine(call.getParameterTypes(), new Object[0], all);
                for (int kind = 0; kind < 3; kind++) {
                    tryAll(due, call, all, kind);
                }
            }
        }
        due.end();
    }

    private static void combine(Class<?>[] types, Object[] begun, List<Object[]> all) {
        if (begun.length == types.length) {
            all.add(begun);
            return;
        }
        Class<?> type = types[begun.length];
        int values = type == int.class ? NUMBERS.length : type == long.class ? LONGS.length : 2;
        for (int i = 0; i < values; i++) {
            // Five parameters would be a quarter of a million runs: every second value is enough there.
            if (types.length == 5 && i % 2 == 1) {
                continue;
            }
            Object[] more = Arrays.copyOf(begun, begun.length + 1);
            more[begun.length] = type == int.class ? (Object) NUMBERS[i] : type == long.class ? (Object) LONGS[i]
                : (Object) (i == 1);
            combine(types, more, all);
        }
    }

    private static CanalTurns made(int kind) {
        if (kind == 0) {
            return new CanalTurns();
        }
        CanalTurns x = Setups.three();
        x.rule(3);
        x.pass(5);
        if (kind == 1) {
            x.absent(2, true);
        }
        for (int f = 3; kind == 2 && f < 8; f++) {
            x.field(f % 4, f);
        }
        x.image();
        x.trade(0, 1, 1);
        x.see(0, 4);
        x.plan(1, 2);
        x.book(0, 5);
        x.feed('h');
        x.tape(0, 0, 9);
        x.tape(1, 0, 3);
        x.tape(2, 3, 9);
        x.item(0, 1, 7);
        return x;
    }

    private static void tryAll(Due due, Method call, List<Object[]> all, int kind) throws Exception {
        CanalTurns x = made(kind);
        List<Long> before = Setups.all(x);
        for (Object[] drawn : all) {
            String name = call.getName() + Arrays.toString(drawn);
            long answer = ((Number) call.invoke(x, drawn)).longValue();
            boolean isAsked = ASKED.contains(call.getName());
            boolean isRefused = answer < 0 && !call.getName().equals("read");
            if (isAsked || isRefused) {
                due.holds(name + " changes something", Setups.all(x).equals(before));
            } else {
                x = made(kind);
            }
        }
    }
}
