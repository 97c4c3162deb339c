import java.util.List;

/** Promises 34 to 41: judge, image, undo, count, tape, item, peek, shift. */
final class TapesSaid extends Said {
    private static final int BYTES = 0, SHORTS = 1, INTS = 2, LONGS = 3, BOOLEANS = 4, MOST = 60;

    @Override
    void tell() {
        judge();
        image();
        undo();
        count();
        tape();
        item();
        peek();
        shift();
        shiftRefused();
    }

    private static void put(CanalTurns x, int tape, int sort, int... items) {
        x.tape(tape, sort, items.length);
        for (int i = 0; i < items.length; i++) {
            x.item(tape, i, items[i]);
        }
    }

    private static void holds(Due due, CanalTurns x, int tape, int... items) {
        for (int i = 0; i < items.length; i++) {
            due.is("item " + i + " of TAPE " + tape, x.peek(tape, i), items[i]);
        }
        due.is("behind the last of TAPE " + tape, x.peek(tape, items.length), NO);
    }

    private void judge() {
        of("Promise 34: judge");
        says("JUDGED from place i of a TAPE on", due -> {
            CanalTurns x = Setups.flat(1, 1);
            put(x, 5, BYTES, 11, 12, 12, 13);
            due.is("judge(5, 0)", x.judge(5, 0), 0);
            due.is("judge(5, 1)", x.judge(5, 1), NOT_ANY);
            due.is("judge(5, 2)", x.judge(5, 2), 1);
            due.is("judge(5, 3)", x.judge(5, 3), 0);
            due.is("judge(5, 4)", x.judge(5, 4), 100);
        });
        says("(-5: no FIELDS, also if it holds nothing;", due -> {
            CanalTurns x = new CanalTurns();
            due.is("it holds nothing", x.judge(0, 0), NOT_ANY);
            due.is("it holds nothing, place -1", x.judge(0, -1), NOT_ANY);
            x.tape(0, BYTES, 0);
            due.is("a row of none", x.judge(0, 0), NOT_ANY);
            x.tape(0, BYTES, 2);
            due.is("a row of bytes", x.judge(0, 0), NOT_ANY);
            due.is("a row of bytes, beyond its end", x.judge(0, 3), NOT_ANY);
            due.is("a row of bytes, place -1", x.judge(0, -1), NOT_ANY);
        });
        says("NONE, CAST go ahead of that).", due -> {
            CanalTurns x = new CanalTurns();
            due.is("no such TAPE, no FIELDS", x.judge(6, 0), NONE);
            due.is("no such TAPE, no FIELDS", x.judge(-1, 0), NONE);
            x.tape(0, INTS, 1);
            due.is("another sort, no FIELDS", x.judge(0, 0), CAST);
        });
        says("NONE: tape;", due -> {
            CanalTurns x = Setups.flat(1);
            due.is("judge(-1, 0)", x.judge(-1, 0), NONE);
            due.is("judge(6, 0)", x.judge(6, 0), NONE);
            due.is("judge(MAX, 0)", x.judge(GREATEST_INT, 0), NONE);
            due.is("judge(0, 0)", x.judge(0, 0), 100);
            due.is("judge(5, 0)", x.judge(5, 0), 100);
        });
        says("CAST: it is no row of bytes.", due -> {
            CanalTurns x = Setups.flat(1);
            for (int sort = SHORTS; sort <= BOOLEANS; sort++) {
                put(x, 0, sort, 24);
                due.is("sort " + sort, x.judge(0, 0), CAST);
                due.is("sort " + sort + ", no such place", x.judge(0, -1), CAST);
                x.tape(0, sort, 0);
                due.is("sort " + sort + ", a row of none", x.judge(0, 0), CAST);
            }
            put(x, 0, BYTES, 24);
            due.is("bytes", x.judge(0, 0), NOT_ANY);
        });
    }

    private void image() {
        of("Promise 35: image");
        says("THE IMAGE is taken: how many FIELDS there are.", due -> {
            CanalTurns x = new CanalTurns();
            due.is("image of none", x.image(), 0);
            x.field(0, 1);
            due.is("image of one", x.image(), 1);
            for (int f = 1; f < 8; f++) {
                x.field(0, 1);
            }
            due.is("undo, as the last IMAGE", x.undo(), 1);
            for (int f = 1; f < 8; f++) {
                x.field(0, 1);
            }
            due.is("image of eight", x.image(), 8);
            due.is("undo", x.undo(), 8);
        });
    }

    private void undo() {
        of("Promise 36: undo");
        says("All is as THE IMAGE: how many FIELDS.", due -> {
            CanalTurns x = Setups.three();
            x.trade(0, 1, 2);
            x.see(0, 7);
            x.plan(2, 3);
            x.book(2, 4);
            List<Long> before = Setups.all(x);
            x.image();
            for (int again = 0; again < 2; again++) {
                x.field(3, 3);
                x.reach(0, 0, 9);
                x.rule(1);
                x.pass(1);
                x.see(0, 8);
                x.plan(1, 1);
                x.book(0, 0);
                due.is("undo", x.undo(), 3);
                due.holds("all is as it was", Setups.all(x).equals(before));
            }
        });
        says("All is as THE IMAGE:", due -> {
            CanalTurns x = new CanalTurns();
            x.image();
            put(x, 0, INTS, 77);
            x.feed('h');
            due.is("undo", x.undo(), 0);
            due.is("TAPES, which aren't in it, stay", x.peek(0, 0), 77);
            due.is("THE TEXT, which isn't in it, stays", x.count(4), 1);
        });
        says("STATE: there is none.", due -> {
            CanalTurns x = Setups.three();
            List<Long> before = Setups.all(x);
            due.is("undo", x.undo(), STATE);
            due.holds("all is as it was", Setups.all(x).equals(before));
            due.is("image", x.image(), 3);
            due.is("undo then", x.undo(), 3);
            due.is("undo of another object", new CanalTurns().undo(), STATE);
        });
    }

    private void count() {
        of("Promise 37: count");
        says("How many: 0 FIELDS, 1 SEEN, 2 of the PLAN, 3 of the BOOK, 4 bytes of THE TEXT.", due -> {
            CanalTurns x = new CanalTurns();
            for (int what = 0; what < 5; what++) {
                due.is("count(" + what + ") at first", x.count(what), 0);
            }
            for (int k = 0; k < 100; k++) {
                x.field(0, 1);
                x.feed('h');
                if (k < 9) {
                    x.see(0, 1);
                    x.plan(1, 1);
                    x.book(0, 1);
                }
            }
            x.plan(-1, 0);
            x.plan(1, 1);
            int[] want = {8, 5, 1, 8, 100};
            for (int what = 0; what < 5; what++) {
                due.is("count(" + what + ")", x.count(what), want[what]);
            }
        });
        says("BAD.", due -> {
            CanalTurns x = new CanalTurns();
            due.is("count(-1)", x.count(-1), BAD);
            due.is("count(5)", x.count(5), BAD);
            due.is("count(MAX)", x.count(GREATEST_INT), BAD);
        });
    }

    private void tape() {
        of("Promise 38: tape");
        says("A TAPE becomes a row of n (0 .. 60) of a sort, all 0,", due -> {
            for (int sort = BYTES; sort <= BOOLEANS; sort++) {
                CanalTurns x = new CanalTurns();
                due.is("a row of 60", x.tape(0, sort, MOST), 1);
                for (int i = 0; i < MOST; i++) {
                    due.is("item " + i, x.peek(0, i), 0);
                    x.item(0, i, 1);
                }
                due.is("item 60", x.peek(0, MOST), NO);
                due.is("a new row of 60", x.tape(0, sort, MOST), 1);
                for (int i = 0; i < MOST; i++) {
                    due.is("item " + i + " again", x.peek(0, i), 0);
                }
                due.is("a row of 0", x.tape(0, sort, 0), 1);
                due.is("item 0", x.peek(0, 0), NO);
                due.is("it is there", x.shift(0, 0, 0, 0, 0), 0);
            }
        });
        says("or holds nothing (sort -1: n does not matter): 1.", due -> {
            CanalTurns x = new CanalTurns();
            int[] sizes = {0, 1, 61, -1, LEAST_INT, GREATEST_INT};
            for (int n : sizes) {
                x.tape(0, INTS, 2);
                due.is("tape(0, -1, " + n + ")", x.tape(0, -1, n), 1);
                due.is("item 0", x.peek(0, 0), NO);
                due.is("nothing is there", x.item(0, 0, 1), NOTHING);
            }
        });
        says("NONE: tape;", due -> {
            CanalTurns x = new CanalTurns();
            due.is("tape(-1, 0, 1)", x.tape(-1, 0, 1), NONE);
            due.is("tape(6, 0, 1)", x.tape(6, 0, 1), NONE);
            due.is("tape(6, -1, 1)", x.tape(6, -1, 1), NONE);
            due.is("tape(MAX, 0, 1)", x.tape(GREATEST_INT, 0, 1), NONE);
            due.is("tape(0, 0, 1)", x.tape(0, 0, 1), 1);
            due.is("tape(5, 0, 1)", x.tape(5, 0, 1), 1);
        });
        says("BAD: sort,", due -> {
            CanalTurns x = new CanalTurns();
            due.is("sort -2", x.tape(0, -2, 1), BAD);
            due.is("sort 5", x.tape(0, 5, 1), BAD);
            due.is("sort MIN", x.tape(0, LEAST_INT, 1), BAD);
            due.is("nothing is there", x.item(0, 0, 1), NOTHING);
        });
        says("n above 60;", due -> {
            CanalTurns x = new CanalTurns();
            for (int sort = BYTES; sort <= BOOLEANS; sort++) {
                put(x, 0, sort, 1);
                due.is("61", x.tape(0, sort, 61), BAD);
                due.is("MAX", x.tape(0, sort, GREATEST_INT), BAD);
                holds(due, x, 0, 1);
            }
        });
        says("SIZE.", due -> {
            CanalTurns x = new CanalTurns();
            for (int sort = BYTES; sort <= BOOLEANS; sort++) {
                put(x, 0, sort, 1);
                due.is("-1", x.tape(0, sort, -1), SIZE);
                due.is("MIN", x.tape(0, sort, LEAST_INT), SIZE);
                holds(due, x, 0, 1);
            }
        });
    }

    private static void becomes(Due due, int sort, long v, long want) {
        CanalTurns x = new CanalTurns();
        x.tape(0, sort, 2);
        due.is("item " + v + " of sort " + sort, x.item(0, 1, v), 1);
        due.is("then, of " + v, x.peek(0, 1), want);
        due.is("the other item", x.peek(0, 0), 0);
    }

    private void item() {
        of("Promise 39: item");
        says("Item i of a TAPE becomes v (its lowest bits, as many as an item has;", due -> {
            becomes(due, BYTES, 127, 127);
            becomes(due, BYTES, 128, -128);
            becomes(due, BYTES, 256, 0);
            becomes(due, BYTES, -129, 127);
            becomes(due, SHORTS, 32767, 32767);
            becomes(due, SHORTS, 32768, -32768);
            becomes(due, SHORTS, 65536, 0);
            becomes(due, INTS, 2147483647L, 2147483647L);
            becomes(due, INTS, 2147483648L, -2147483648L);
            becomes(due, INTS, 1L << 32, 0);
            becomes(due, LONGS, Long.MAX_VALUE, Long.MAX_VALUE);
            becomes(due, LONGS, Long.MIN_VALUE, Long.MIN_VALUE);
            becomes(due, LONGS, -1, -1);
        });
        says("booleans: whether v is not 0): 1.", due -> {
            becomes(due, BOOLEANS, 0, 0);
            becomes(due, BOOLEANS, 1, 1);
            becomes(due, BOOLEANS, 2, 1);
            becomes(due, BOOLEANS, -1, 1);
            becomes(due, BOOLEANS, 1L << 32, 1);
            becomes(due, BOOLEANS, Long.MIN_VALUE, 1);
        });
        says("NONE;", due -> {
            CanalTurns x = new CanalTurns();
            due.is("item(-1, 0, 1)", x.item(-1, 0, 1), NONE);
            due.is("item(6, 0, 1)", x.item(6, 0, 1), NONE);
            due.is("item(MIN, 0, 1)", x.item(LEAST_INT, 0, 1), NONE);
        });
        says("NOTHING;", due -> {
            CanalTurns x = new CanalTurns();
            due.is("at first", x.item(5, 0, 1), NOTHING);
            x.tape(5, BYTES, 1);
            due.is("a row", x.item(5, 0, 1), 1);
            x.tape(5, -1, 0);
            due.is("nothing again", x.item(5, 0, 1), NOTHING);
        });
        says("PLACE.", due -> {
            CanalTurns x = new CanalTurns();
            put(x, 0, INTS, 7, 8);
            due.is("place -1", x.item(0, -1, 1), PLACE);
            due.is("place 2", x.item(0, 2, 1), PLACE);
            due.is("place MAX", x.item(0, GREATEST_INT, 1), PLACE);
            holds(due, x, 0, 7, 8);
            x.tape(0, INTS, 0);
            due.is("place 0 of none", x.item(0, 0, 1), PLACE);
            x.tape(0, INTS, MOST);
            due.is("place 59 of 60", x.item(0, 59, 1), 1);
            due.is("place 60 of 60", x.item(0, 60, 1), PLACE);
        });
    }

    private void peek() {
        of("Promise 40: peek");
        says("Item i of a TAPE.", due -> {
            CanalTurns x = new CanalTurns();
            put(x, 4, LONGS, 7, 8, 9);
            holds(due, x, 4, 7, 8, 9);
        });
        says("NO: no such TAPE,", due -> {
            CanalTurns x = new CanalTurns();
            due.is("peek(-1, 0)", x.peek(-1, 0), NO);
            due.is("peek(6, 0)", x.peek(6, 0), NO);
            due.is("peek(MAX, 0)", x.peek(GREATEST_INT, 0), NO);
        });
        says("nothing there,", due -> {
            CanalTurns x = new CanalTurns();
            due.is("at first", x.peek(3, 0), NO);
            put(x, 3, LONGS, 7);
            x.tape(3, -1, 0);
            due.is("nothing again", x.peek(3, 0), NO);
        });
        says("no such place.", due -> {
            CanalTurns x = new CanalTurns();
            put(x, 0, BYTES, 7, 8);
            due.is("place -1", x.peek(0, -1), NO);
            due.is("place 2", x.peek(0, 2), NO);
            due.is("place MIN", x.peek(0, LEAST_INT), NO);
            x.tape(0, BYTES, 0);
            due.is("place 0 of none", x.peek(0, 0), NO);
        });
    }

    private void shift() {
        of("Promise 41: shift");
        says("n items of a TAPE from i on come to another one", due -> {
            for (int sort = BYTES; sort < BOOLEANS; sort++) {
                CanalTurns x = new CanalTurns();
                put(x, 0, sort, 1, 2, 3, 4);
                put(x, 1, sort, 5, 6, 7);
                due.is("shift(0, 2, 1, 1, 2)", x.shift(0, 2, 1, 1, 2), 2);
                holds(due, x, 1, 5, 3, 4);
                holds(due, x, 0, 1, 2, 3, 4);
            }
            CanalTurns y = new CanalTurns();
            put(y, 5, BOOLEANS, 1, 0, 1);
            put(y, 0, BOOLEANS, 0, 1, 0);
            due.is("booleans", y.shift(5, 0, 0, 0, 3), 3);
            holds(due, y, 0, 1, 0, 1);
        });
        says("(or the same) from j on, as they all were before: n.", due -> {
            CanalTurns x = new CanalTurns();
            put(x, 0, INTS, 1, 2, 3, 4, 5);
            due.is("further", x.shift(0, 0, 0, 1, 4), 4);
            holds(due, x, 0, 1, 1, 2, 3, 4);
            put(x, 0, INTS, 1, 2, 3, 4, 5);
            due.is("back", x.shift(0, 1, 0, 0, 4), 4);
            holds(due, x, 0, 2, 3, 4, 5, 5);
            due.is("where they are", x.shift(0, 0, 0, 0, 5), 5);
            holds(due, x, 0, 2, 3, 4, 5, 5);
        });
        says("n.", due -> {
            CanalTurns x = new CanalTurns();
            put(x, 0, INTS, 1, 2, 3);
            put(x, 1, INTS, 4, 5);
            due.is("none, at the start", x.shift(0, 0, 1, 0, 0), 0);
            due.is("none, at both ends", x.shift(0, 3, 1, 2, 0), 0);
            holds(due, x, 1, 4, 5);
            due.is("all of the shorter one", x.shift(0, 1, 1, 0, 2), 2);
            holds(due, x, 1, 2, 3);
            x.tape(2, LONGS, MOST);
            x.tape(3, LONGS, MOST);
            due.is("60", x.shift(2, 0, 3, 0, MOST), MOST);
            x.tape(2, LONGS, 0);
            due.is("none of none", x.shift(2, 0, 3, 60, 0), 0);
        });
    }

    private void shiftRefused() {
        says("NONE: tapes;", due -> {
            CanalTurns x = new CanalTurns();
            put(x, 0, INTS, 1);
            due.is("from -1", x.shift(-1, 0, 0, 0, 0), NONE);
            due.is("from 6", x.shift(6, 0, 0, 0, 0), NONE);
            due.is("to -1", x.shift(0, 0, -1, 0, 0), NONE);
            due.is("to 6", x.shift(0, 0, 6, 0, 0), NONE);
            due.is("to MAX", x.shift(0, 0, GREATEST_INT, 0, 0), NONE);
        });
        says("NOTHING;", due -> {
            CanalTurns x = new CanalTurns();
            put(x, 0, INTS, 1);
            due.is("from nothing", x.shift(1, 0, 0, 0, 0), NOTHING);
            due.is("to nothing", x.shift(0, 0, 1, 0, 0), NOTHING);
            due.is("from nothing to the same", x.shift(1, 0, 1, 0, 0), NOTHING);
            due.is("from nothing, no such place", x.shift(1, -1, 0, 9, -1), NOTHING);
        });
        says("CAST: of unlike sorts;", due -> {
            CanalTurns x = new CanalTurns();
            for (int from = BYTES; from <= BOOLEANS; from++) {
                for (int to = BYTES; to <= BOOLEANS; to++) {
                    put(x, 0, from, 1);
                    put(x, 1, to, 0);
                    due.is("of sorts " + from + ", " + to, x.shift(0, 0, 1, 0, 1), from == to ? 1 : CAST);
                    holds(due, x, 1, from == to ? 1 : 0);
                    due.is("none of sorts " + from + ", " + to, x.shift(0, 0, 1, 0, 0), from == to ? 0 : CAST);
                }
            }
        });
        says("PLACE: n, i or j is below 0,", due -> {
            CanalTurns x = new CanalTurns();
            put(x, 0, INTS, 1, 2, 3);
            put(x, 1, INTS, 4, 5, 6);
            due.is("n -1", x.shift(0, 0, 1, 0, -1), PLACE);
            due.is("n -1, within both rows", x.shift(0, 1, 1, 1, -1), PLACE);
            due.is("i -1", x.shift(0, -1, 1, 0, 1), PLACE);
            due.is("j -1", x.shift(0, 0, 1, -1, 1), PLACE);
            due.is("i -1, none", x.shift(0, -1, 1, 0, 0), PLACE);
            due.is("j -1, none", x.shift(0, 0, 1, -1, 0), PLACE);
            due.is("n MIN", x.shift(0, 0, 1, 0, LEAST_INT), PLACE);
            due.is("i MIN, n MIN", x.shift(0, LEAST_INT, 1, 0, LEAST_INT), PLACE);
            holds(due, x, 1, 4, 5, 6);
        });
        says("or beyond either's end.", due -> {
            CanalTurns x = new CanalTurns();
            put(x, 0, INTS, 1, 2, 3);
            put(x, 1, INTS, 4, 5);
            due.is("one beyond the first's end", x.shift(0, 2, 1, 0, 2), PLACE);
            due.is("one beyond the other's end", x.shift(0, 0, 1, 1, 2), PLACE);
            due.is("more than the first has", x.shift(1, 0, 0, 0, 3), PLACE);
            due.is("more than the other has", x.shift(0, 0, 1, 0, 3), PLACE);
            due.is("none, i beyond", x.shift(0, 4, 1, 0, 0), PLACE);
            due.is("none, j beyond", x.shift(0, 0, 1, 3, 0), PLACE);
            due.is("i and n MAX", x.shift(0, GREATEST_INT, 1, 0, GREATEST_INT), PLACE);
            due.is("j MAX", x.shift(0, 0, 1, GREATEST_INT, 1), PLACE);
            due.is("i MAX", x.shift(0, GREATEST_INT, 1, 0, 1), PLACE);
            holds(due, x, 0, 1, 2, 3);
            holds(due, x, 1, 4, 5);
        });
    }
}
