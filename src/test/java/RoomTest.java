import java.lang.management.ManagementFactory;
import java.lang.reflect.Field;
import java.lang.reflect.Modifier;

/** All calls of one run live in one room: an object is small, and no call makes anything. */
public final class RoomTest {
    private static int calls = 0;

    public static void main(String[] args) throws Exception {
        Due due = new Due();
        long size = elements(new CanalTurns());
        due.holds("an object has " + size + " elements", size < 1500);
        com.sun.management.ThreadMXBean threads = (com.sun.management.ThreadMXBean) ManagementFactory.getThreadMXBean();
        CanalTurns x = new CanalTurns();
        long thread = Thread.currentThread().getId();
        callAll(x);
        long before = threads.getThreadAllocatedBytes(thread);
        for (int i = 0; i < 500; i++) {
            callAll(x);
        }
        long made = threads.getThreadAllocatedBytes(thread) - before;
        due.holds(calls + " calls made " + made + " bytes", made < 20000);
        due.end();
    }

    private static long elements(Object held) throws Exception {
        if (held instanceof int[] row) {
            return row.length;
        }
        if (held instanceof long[] row) {
            return row.length;
        }
        if (held instanceof byte[] row) {
            return row.length;
        }
        long all = 0;
        if (held instanceof Object[] row) {
            for (Object item : row) {
                all += 1 + elements(item);
            }
            return all;
        }
        for (Field f : held.getClass().getDeclaredFields()) {
            if (!Modifier.isStatic(f.getModifiers())) {
                f.setAccessible(true);
                all += 1 + (f.getType().isPrimitive() ? 0 : elements(f.get(held)));
            }
        }
        return all;
    }

    private static void callAll(CanalTurns x) {
        calls += 50;
        x.field(calls % 4, 1 + calls % 9);
        x.renew(0, 0, calls % 4);
        x.absent(1, calls % 2 == 0);
        x.reach(1, 0, 2);
        x.reachOf(0, 2);
        x.hours(8 + calls % 80);
        x.rule(calls % 4);
        x.pass(1);
        x.of(0, 6);
        x.feed('f');
        x.feed('0');
        x.feed('1');
        x.feed(';');
        x.feed('c');
        x.feed('1');
        x.feed('1');
        x.feed('1');
        x.read();
        x.feed('h');
        x.read();
        x.turn(0);
        x.lag(0);
        x.line(0);
        x.who(9);
        x.shared(99, 0);
        x.told(11);
        x.trade(0, 2, 1);
        x.trade(2, 3, 1);
        x.undoTrade();
        x.tradeOf(0, 0);
        x.chain(0);
        x.over(0, 12, 1);
        x.uneven(12);
        x.evenest(12);
        x.see(0, 5);
        x.fits(0);
        x.odds(0, 0);
        x.mean(0);
        x.plan(1, 1);
        x.ends(0);
        x.book(0, 3);
        x.looked();
        x.tape(0, calls % 5, 60);
        x.judge(0, 0);
        x.image();
        x.undo();
        x.count(0);
        x.item(0, 0, 3L);
        x.peek(0, 0);
        x.shift(0, 0, 0, 1, 9);
    }
}
