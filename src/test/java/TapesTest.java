/** Promises 34 to 41: judge, image, undo, count, tape, item, peek, shift. */
public final class TapesTest {
    private static final Due due = new Due();

    public static void main(String[] args) {
        judging();
        judgingWithoutFields();
        images();
        counts();
        rows();
        items();
        shifts();
        shiftsRefused();
        due.end();
    }

    private static void judging() {
        CanalTurns x = Setups.three();
        due.is("judge(-1, 0)", x.judge(-1, 0), -1);
        due.is("judge(6, 0)", x.judge(6, 0), -1);
        due.is("judge, holds nothing", x.judge(5, 0), 100);
        for (int sort = 1; sort < 5; sort++) {
            x.tape(5, sort, 3);
            due.is("judge, sort " + sort, x.judge(5, 0), -12);
            due.is("judge, sort " + sort, x.judge(5, -1), -12);
        }
        x.tape(5, 0, 5);
        int[] told = {7, 9, 5, 5, 9};
        for (int i = 0; i < 5; i++) {
            x.item(5, i, told[i]);
        }
        due.is("judge(5, 0)", x.judge(5, 0), 0);
        due.is("judge(5, 1)", x.judge(5, 1), -5);
        due.is("judge(5, 2)", x.judge(5, 2), 0);
        due.is("judge(5, 4)", x.judge(5, 4), 101);
        due.is("judge(5, 5)", x.judge(5, 5), 100);
        due.is("judge(5, 6)", x.judge(5, 6), 100);
        due.is("judge(5, MAX)", x.judge(5, Integer.MAX_VALUE), 100);
        due.is("judge(5, -1)", x.judge(5, -1), 100);
        due.is("judge(5, MIN)", x.judge(5, Integer.MIN_VALUE), 100);
        x.tape(0, 0, 2);
        x.item(0, 0, 9);
        x.item(0, 1, 5);
        due.is("judge, a row too short", x.judge(0, 0), 102);
        x.item(0, 1, 4);
        due.is("judge, otherwise ahead of the end", x.judge(0, 0), 1);
        x.trade(1, 2, 1);
        due.is("judge, with TRADES", x.judge(0, 0), 102);
        due.is("judge, with TRADES", x.judge(5, 1), 1);
        x.tape(0, 0, 0);
        due.is("judge, a row of none", x.judge(0, 0), 100);
    }

    private static void judgingWithoutFields() {
        CanalTurns x = new CanalTurns();
        due.is("judge(6, 0)", x.judge(6, 0), -1);
        due.is("judge, holds nothing", x.judge(0, 0), -5);
        due.is("judge, holds nothing", x.judge(0, -1), -5);
        x.tape(0, 3, 1);
        due.is("judge, longs", x.judge(0, 0), -12);
        x.tape(0, 0, 1);
        due.is("judge, bytes", x.judge(0, 0), -5);
        due.is("judge, bytes", x.judge(0, 9), -5);
    }

    private static void images() {
        CanalTurns x = Setups.three();
        due.is("undo, none", x.undo(), -3);
        x.rule(1);
        x.hours(40);
        x.pass(3);
        x.absent(1, true);
        x.trade(0, 2, 3);
        x.see(0, 4);
        x.plan(1, 4);
        x.plan(2, 2);
        x.book(0, 4);
        x.book(2, 7);
        java.util.List<Long> before = Setups.all(x);
        due.is("image", x.image(), 3);
        due.holds("image changes nothing", Setups.all(x).equals(before));
        change(x);
        due.is("undo", x.undo(), 3);
        due.holds("all is as THE IMAGE", Setups.all(x).equals(before));
        change(x);
        due.is("undo again", x.undo(), 3);
        due.holds("all is as THE IMAGE again", Setups.all(x).equals(before));
        x.field(3, 9);
        due.is("a later image", x.image(), 4);
        x.field(3, 9);
        due.is("undo", x.undo(), 4);
        due.is("FIELDS", x.told(0), 4);
        due.is("the TRADE is gone in it", x.told(9), 0);
        x.tape(2, 2, 2);
        x.item(2, 1, 77);
        x.feed('h');
        due.is("undo", x.undo(), 4);
        due.is("TAPES stay", x.peek(2, 1), 77);
        due.is("THE TEXT stays", x.count(4), 1);
    }

    private static void change(CanalTurns x) {
        x.undoTrade();
        x.trade(2, 0, 1);
        x.field(2, 7);
        x.field(2, 7);
        x.absent(4, true);
        x.renew(0, 0, 3);
        x.renew(0, 1, 9);
        x.absent(1, false);
        for (int r = 0; r < 4; r++) {
            x.reach(r, 0, 7);
            x.reach(r, 1, 7);
        }
        x.hours(77);
        x.rule(3);
        x.pass(9);
        x.trade(0, 1, 1);
        x.trade(0, 1, 1);
        x.see(4, 4);
        x.plan(-1, 0);
        x.plan(0, 4);
        x.book(-1, 0);
        x.book(4, 4);
        x.book(4, 4);
        x.book(4, 4);
    }

    private static void counts() {
        CanalTurns x = Setups.three();
        x.see(0, 0);
        x.plan(1, 1);
        x.plan(1, 1);
        x.book(0, 0);
        x.book(0, 0);
        x.book(0, 0);
        x.book(0, 0);
        Setups.feed(x, "abcde");
        int[] want = {3, 1, 2, 4, 5};
        for (int what = 0; what < 5; what++) {
            due.is("count(" + what + ")", x.count(what), want[what]);
        }
        due.is("count(5)", x.count(5), -2);
        due.is("count(-1)", x.count(-1), -2);
    }

    private static void rows() {
        CanalTurns x = new CanalTurns();
        due.is("tape(-1, 0, 0)", x.tape(-1, 0, 0), -1);
        due.is("tape(6, 0, 0)", x.tape(6, 0, 0), -1);
        due.is("tape(6, 9, 99)", x.tape(6, 9, 99), -1);
        due.is("tape(0, -2, 0)", x.tape(0, -2, 0), -2);
        due.is("tape(0, 5, 0)", x.tape(0, 5, 0), -2);
        due.is("tape(0, 5, -1)", x.tape(0, 5, -1), -2);
        due.is("tape(0, 0, 61)", x.tape(0, 0, 61), -2);
        due.is("tape(0, 0, -1)", x.tape(0, 0, -1), -14);
        due.is("tape(0, 4, MIN)", x.tape(0, 4, Integer.MIN_VALUE), -14);
        due.is("it holds nothing still", x.item(0, 0, 0), -11);
        for (int t = 0; t < 6; t++) {
            for (int sort = 0; sort < 5; sort++) {
                due.is("tape, 60", x.tape(t, sort, 60), 1);
                for (int i = 0; i < 60; i++) {
                    due.is("all 0", x.peek(t, i), 0);
                    due.is("item", x.item(t, i, 1), 1);
                }
                due.is("peek(60)", x.peek(t, 60), CanalTurns.NO);
                due.is("item(60)", x.item(t, 60, 1), -13);
                due.is("tape, 0", x.tape(t, sort, 0), 1);
                due.is("peek(0)", x.peek(t, 0), CanalTurns.NO);
                due.is("item(0)", x.item(t, 0, 1), -13);
            }
        }
        due.is("tape(0, 2, 3)", x.tape(0, 2, 3), 1);
        due.is("all 0", x.peek(0, 2), 0);
        due.is("tape refused", x.tape(0, 2, -1), -14);
        due.is("it stays", x.peek(0, 2), 0);
        due.is("tape(0, -1, 99)", x.tape(0, -1, 99), 1);
        due.is("nothing", x.peek(0, 0), CanalTurns.NO);
        due.is("nothing", x.item(0, 0, 0), -11);
        due.is("tape(0, -1, -9)", x.tape(0, -1, -9), 1);
    }

    private static void items() {
        CanalTurns x = new CanalTurns();
        long[] values = {0, 1, -1, 127, 128, 255, 256, 32767, 32768, 65535, 65536, 1L << 31, (1L << 31) - 1, 1L << 32,
            (1L << 32) + 7, Long.MAX_VALUE, Long.MIN_VALUE, -129, -32769};
        for (int sort = 0; sort < 5; sort++) {
            due.is("tape", x.tape(sort, sort, 2), 1);
            for (long v : values) {
                long want = sort == 0 ? (byte) v : sort == 1 ? (short) v : sort == 2 ? (int) v : v;
                due.is("item " + v, x.item(sort, 1, v), 1);
                due.is("peek " + v + " of sort " + sort, x.peek(sort, 1), sort == 4 ? (v == 0 ? 0 : 1) : want);
                due.is("the other item", x.peek(sort, 0), 0);
            }
        }
        due.is("item(-1, 0, 0)", x.item(-1, 0, 0), -1);
        due.is("item(6, 0, 0)", x.item(6, 0, 0), -1);
        due.is("item, nothing", x.item(5, -1, 0), -11);
        due.is("item, place -1", x.item(0, -1, 0), -13);
        due.is("item, place 2", x.item(0, 2, 0), -13);
        due.is("peek(-1, 0)", x.peek(-1, 0), CanalTurns.NO);
        due.is("peek(6, 0)", x.peek(6, 0), CanalTurns.NO);
        due.is("peek, nothing", x.peek(5, 0), CanalTurns.NO);
        due.is("peek, place -1", x.peek(0, -1), CanalTurns.NO);
        due.is("peek, place 2", x.peek(0, 2), CanalTurns.NO);
    }

    private static void counted(CanalTurns x, int tape, int sort, int n) {
        x.tape(tape, sort, n);
        for (int i = 0; i < n; i++) {
            x.item(tape, i, i + 1);
        }
    }

    private static void are(CanalTurns x, int tape, int... want) {
        for (int i = 0; i < want.length; i++) {
            due.is("item " + i, x.peek(tape, i), want[i]);
        }
    }

    private static void shifts() {
        CanalTurns x = new CanalTurns();
        counted(x, 0, 2, 5);
        x.tape(1, 2, 4);
        due.is("shift", x.shift(0, 2, 1, 1, 3), 3);
        are(x, 1, 0, 3, 4, 5);
        are(x, 0, 1, 2, 3, 4, 5);
        due.is("shift to the right", x.shift(0, 0, 0, 1, 4), 4);
        are(x, 0, 1, 1, 2, 3, 4);
        counted(x, 0, 2, 5);
        due.is("shift to the left", x.shift(0, 1, 0, 0, 4), 4);
        are(x, 0, 2, 3, 4, 5, 5);
        due.is("shift none, at the ends", x.shift(0, 5, 1, 4, 0), 0);
        are(x, 1, 0, 3, 4, 5);
        counted(x, 2, 3, 60);
        x.tape(3, 3, 60);
        due.is("shift all", x.shift(2, 0, 3, 0, 60), 60);
        due.is("the last", x.peek(3, 59), 60);
    }

    private static void shiftsRefused() {
        CanalTurns x = new CanalTurns();
        counted(x, 0, 0, 5);
        counted(x, 1, 0, 3);
        counted(x, 2, 1, 3);
        due.is("shift(-1, ..)", x.shift(-1, 0, 5, 0, 0), -1);
        due.is("shift(6, ..)", x.shift(6, 0, 0, 0, 0), -1);
        due.is("shift(.., -1, ..)", x.shift(5, 0, -1, 0, 0), -1);
        due.is("shift(.., 6, ..)", x.shift(0, 0, 6, 0, 0), -1);
        due.is("from nothing", x.shift(5, -1, 2, 0, 0), -11);
        due.is("to nothing", x.shift(0, 0, 5, 0, -1), -11);
        due.is("unlike sorts", x.shift(0, -1, 2, 0, 0), -12);
        due.is("n below 0", x.shift(0, 0, 1, 0, -1), -13);
        due.is("i below 0", x.shift(0, -1, 1, 0, 1), -13);
        due.is("j below 0", x.shift(0, 0, 1, -1, 1), -13);
        due.is("beyond the first's end", x.shift(0, 4, 1, 0, 2), -13);
        due.is("beyond the other's end", x.shift(0, 0, 1, 0, 4), -13);
        due.is("i beyond the end, none", x.shift(0, 6, 1, 0, 0), -13);
        due.is("j beyond the end, none", x.shift(0, 0, 1, 4, 0), -13);
        int max = Integer.MAX_VALUE;
        due.is("sums beyond an int", x.shift(0, max, 1, 0, max), -13);
        due.is("sums beyond an int", x.shift(0, 1, 1, max, max), -13);
        due.is("sums beyond an int", x.shift(0, max, 1, 0, 1), -13);
        due.is("least ints", x.shift(0, 0, 1, 0, Integer.MIN_VALUE), -13);
        are(x, 0, 1, 2, 3, 4, 5);
        are(x, 1, 1, 2, 3);
    }
}
