import java.io.IOException;
import java.nio.file.Files;
import java.nio.file.Path;
import java.util.List;

/** Terms, part 3: TAPES, JUDGED, the host's refusals; and the lines on the answers behind them. */
final class TapesTermsSaid extends Said {
    private static final int BYTES = 0, SHORTS = 1, INTS = 2, LONGS = 3, BOOLEANS = 4;

    @Override
    void tell() {
        of("What it is");
        calls();
        of("Terms 3");
        tapes();
        judged();
        refusals();
        of("Answers");
        answers();
        firstNamed();
        unchanged();
        constants();
        parts();
    }

    private void calls() {
        says("An object is used for at most 512 calls after it has been made;", due -> {
            CanalTurns x = new CanalTurns();
            x.field(0, 1);
            for (int call = 2; call < 512; call++) {
                due.is("call " + call, call % 2 == 0 ? x.hours(8 + call % 89) : x.told(1),
                    call == 2 ? 24 : call % 2 == 0 ? 8 + (call - 2) % 89 : 8 + (call - 1) % 89);
            }
            due.is("call 512", x.told(1), 8 + 510 % 89);
        });
    }

    private void tapes() {
        says("TAPES 0 .. 5", due -> {
            CanalTurns x = new CanalTurns();
            due.is("TAPE -1", x.tape(-1, BYTES, 1), NONE);
            due.is("TAPE 6", x.tape(6, BYTES, 1), NONE);
            for (int t = 0; t < 6; t++) {
                due.is("TAPE " + t, x.tape(t, LONGS, 1), 1);
                x.item(t, 0, 100 + t);
            }
            for (int t = 0; t < 6; t++) {
                due.is("its item", x.peek(t, 0), 100 + t);
            }
        });
        says("hold nothing (at first),", due -> {
            for (int t = 0; t < 6; t++) {
                CanalTurns x = new CanalTurns();
                due.is("item of TAPE " + t, x.item(t, 0, 0), NOTHING);
                due.is("peek of TAPE " + t, x.peek(t, 0), NO);
                due.is("shift of TAPE " + t, x.shift(t, 0, t, 0, 0), NOTHING);
            }
        });
        says("or a row of 0 bytes, 1 shorts, 2 ints, 3 longs, 4 booleans (items 0, 1).", due -> {
            long[] put = {127, 128, -128, -129, 32767, 32768, 2147483647, 2147483648L, Long.MAX_VALUE, Long.MIN_VALUE,
                1, 0, -1};
            for (long v : put) {
                long[] want = {(byte) v, (short) v, (int) v, v, v == 0 ? 0 : 1};
                for (int sort = 0; sort < 5; sort++) {
                    CanalTurns x = new CanalTurns();
                    due.is("a row of sort " + sort, x.tape(0, sort, 1), 1);
                    x.item(0, 0, v);
                    due.is("of " + v + " sort " + sort + " holds", x.peek(0, 0), want[sort]);
                }
            }
            due.is("sort 5", new CanalTurns().tape(0, 5, 1), BAD);
        });
    }

    /** Three FIELDS that HAVE 9, 5, 5, and a row of these bytes. */
    private static CanalTurns told(int... hours) {
        CanalTurns x = Setups.three();
        x.tape(0, BYTES, hours.length);
        for (int i = 0; i < hours.length; i++) {
            x.item(0, i, hours[i]);
        }
        return x;
    }

    private void judged() {
        says("Hours told by a row of bytes, from a place on, FIELD by FIELD, are JUDGED: the first FIELD that HAS "
            + "otherwise;", due -> {
            due.is("the first", told(8, 4, 4).judge(0, 0), 0);
            due.is("the second", told(9, 4, 4).judge(0, 0), 1);
            due.is("the last", told(9, 5, 6).judge(0, 0), 2);
            due.is("the last, from 2 on", told(9, 5, 9, 5, 4).judge(0, 2), 2);
            due.is("the first, a byte below 0", told(-9, 5, 5).judge(0, 0), 0);
            due.is("ahead of the row's end", told(9, 4).judge(0, 0), 1);
        });
        says("-5: none;", due -> {
            due.is("none", told(9, 5, 5).judge(0, 0), NOT_ANY);
            due.is("none, from 1 on", told(0, 9, 5, 5).judge(0, 1), NOT_ANY);
            due.is("none, a longer row", told(9, 5, 5, 5).judge(0, 0), NOT_ANY);
            CanalTurns x = told(7, 7, 5);
            x.trade(0, 1, 2);
            due.is("none, with a TRADE", x.judge(0, 0), NOT_ANY);
        });
        says("100 and how many were looked at, if the row ends ahead of that", due -> {
            due.is("two", told(9, 5).judge(0, 0), 102);
            due.is("one", told(9).judge(0, 0), 101);
            due.is("none, at the end", told(9).judge(0, 1), 100);
            due.is("none, beyond the end", told(9).judge(0, 2), 100);
            due.is("none, from the greatest int on", told(9).judge(0, GREATEST_INT), 100);
            due.is("none, a row of none", told().judge(0, 0), 100);
            due.is("two, from 1 on", told(0, 9, 5).judge(0, 1), 102);
        });
        says("(or the place is below 0,", due -> {
            due.is("place -1", told(9, 5, 5).judge(0, -1), 100);
            due.is("the least place", told(9, 5, 5).judge(0, LEAST_INT), 100);
        });
        says("or the TAPE holds nothing).", due -> {
            CanalTurns x = Setups.three();
            due.is("at first", x.judge(0, 0), 100);
            x.tape(0, INTS, 3);
            x.tape(0, -1, 0);
            due.is("again", x.judge(0, 0), 100);
            due.is("place -1", x.judge(0, -1), 100);
        });
    }

    private void refusals() {
        says("The host's refusals: NOTHING (-11): nothing is there;", due -> {
            CanalTurns x = new CanalTurns();
            due.is("item", x.item(0, 0, 0), -11);
            x.tape(0, INTS, 0);
            due.is("shift to it", x.shift(0, 0, 1, 0, 0), -11);
            due.is("shift from it", x.shift(1, 0, 0, 0, 0), -11);
        });
        says("CAST (-12): another sort;", due -> {
            CanalTurns x = new CanalTurns();
            x.tape(0, SHORTS, 1);
            x.tape(1, BOOLEANS, 1);
            due.is("shift", x.shift(0, 0, 1, 0, 1), -12);
            due.is("judge", x.judge(0, 0), -12);
        });
        says("PLACE (-13): no such place;", due -> {
            CanalTurns x = new CanalTurns();
            x.tape(0, LONGS, 2);
            due.is("item -1", x.item(0, -1, 0), -13);
            due.is("item 2", x.item(0, 2, 0), -13);
            due.is("shift", x.shift(0, 1, 0, 0, 2), -13);
        });
        says("SIZE (-14): a size below 0.", due -> {
            CanalTurns x = new CanalTurns();
            for (int sort = 0; sort < 5; sort++) {
                due.is("tape of -1", x.tape(0, sort, -1), -14);
                due.is("tape of the least size", x.tape(0, sort, LEAST_INT), -14);
                due.is("tape of 0", x.tape(0, sort, 0), 1);
            }
        });
    }

    private void answers() {
        says("Answers: NONE (-1) no such number;", due -> {
            due.is("NONE", CanalTurns.NONE, -1);
            due.is("no such FIELD", new CanalTurns().of(0, 0), -1);
        });
        says("BAD (-2) a number is not as told;", due -> {
            due.is("BAD", CanalTurns.BAD, -2);
            due.is("HOURS not as told", new CanalTurns().hours(7), -2);
        });
        says("STATE (-3) as told;", due -> {
            due.is("STATE", CanalTurns.STATE, -3);
            due.is("no TRADE", new CanalTurns().undoTrade(), -3);
        });
        says("FULL (-4);", due -> {
            due.is("FULL", CanalTurns.FULL, -4);
            due.is("a ninth FIELD", Setups.flat(1, 1, 1, 1, 1, 1, 1, 1).field(0, 1), -4);
        });
    }

    /** All rows full, in the last WEEK. */
    private static CanalTurns full() {
        CanalTurns x = Setups.flat(1, 1, 1, 1, 1, 1, 1, 1);
        Setups.passTo(x, 999);
        for (int k = 0; k < 12; k++) {
            x.trade(k % 2, 1 - k % 2, 1);
            x.see(0, 3);
            x.plan(1, 1);
            x.book(0, 3);
        }
        return x;
    }

    private void firstNamed() {
        says("the first that a call's words name.", due -> {
            CanalTurns x = full();
            due.is("field, BAD and FULL", x.field(4, 1), BAD);
            due.is("renew, NONE and BAD", x.renew(8, 0, 4), NONE);
            due.is("renew, NONE of what and BAD", x.renew(0, 2, 10), NONE);
            due.is("reach, NONE and BAD", x.reach(4, 0, 10), NONE);
            due.is("reach, NONE of what and BAD", x.reach(0, 2, 26), NONE);
            due.is("pass, BAD and FULL", x.pass(53), BAD);
            due.is("shared, NONE and BAD", x.shared(1000, 8), NONE);
            due.is("over, NONE and BAD", x.over(8, 13, 0), NONE);
            due.is("over, NONE of what and BAD", x.over(0, 13, 2), NONE);
            due.is("see, NONE, BAD, FULL", x.see(8, 97), NONE);
            due.is("see, BAD and FULL", x.see(0, 97), BAD);
            due.is("plan, NONE, BAD, FULL", x.plan(4, 97), NONE);
            due.is("plan, NONE of a FIELD, FULL", x.plan(0, 8), NONE);
            due.is("plan, BAD and FULL", x.plan(1, 53), BAD);
            due.is("book, NONE, BAD, FULL", x.book(8, 97), NONE);
            due.is("book, BAD and FULL", x.book(0, 97), BAD);
            Setups.feed(x, "h".repeat(100));
            due.is("feed, BAD and FULL", x.feed(128), BAD);
        });
        says("the first that a call's words name.", due -> {
            CanalTurns x = full();
            due.is("trade, NONE and all others", x.trade(8, 0, 97), NONE);
            due.is("trade with itself and all others", x.trade(0, 0, 97), NONE);
            due.is("trade, BAD, STATE, FULL", x.trade(0, 1, 97), BAD);
            due.is("trade, STATE and FULL", x.trade(0, 1, 96), STATE);
            due.is("trade, FULL", x.trade(0, 1, 1), FULL);
            x.absent(0, true);
            due.is("trade, BAD and ABSENT", x.trade(1, 0, 0), BAD);
        });
        says("the first that a call's words name.", due -> {
            CanalTurns x = new CanalTurns();
            due.is("tape, NONE, BAD, SIZE", x.tape(6, 5, -1), NONE);
            due.is("tape, NONE and BAD", x.tape(6, 0, 61), NONE);
            due.is("tape, BAD and SIZE", x.tape(0, 5, -1), BAD);
            due.is("item, NONE, NOTHING, PLACE", x.item(6, -1, 0), NONE);
            due.is("item, NOTHING and PLACE", x.item(0, -1, 0), NOTHING);
            due.is("shift, NONE, NOTHING, PLACE", x.shift(0, -1, 6, 0, 0), NONE);
            due.is("shift, NOTHING and PLACE", x.shift(0, -1, 0, 0, 0), NOTHING);
            x.tape(0, INTS, 1);
            due.is("shift, NOTHING and PLACE", x.shift(0, 9, 1, 0, 0), NOTHING);
            x.tape(1, LONGS, 1);
            due.is("shift, CAST and PLACE", x.shift(0, 9, 1, 0, 0), CAST);
            due.is("judge, NONE and PLACE", x.judge(6, -1), NONE);
            due.is("judge, CAST, no FIELDS", x.judge(0, -1), CAST);
        });
    }

    private void unchanged() {
        says("What is answered so changes nothing;", due -> {
            CanalTurns x = full();
            x.tape(0, INTS, 3);
            x.tape(1, LONGS, 3);
            Setups.feed(x, "h".repeat(100));
            List<Long> before = Setups.all(x);
            int[] answers = {x.field(4, 1), x.field(0, 0), x.field(0, 1), x.renew(8, 0, 0), x.renew(0, 2, 0),
                x.renew(0, 0, 4), x.renew(0, 1, 0), x.absent(8, true), x.reach(4, 0, 0), x.reach(0, 2, 0),
                x.reach(0, 0, 10), x.reach(0, 1, 26), x.hours(7), x.rule(4), x.pass(-1), x.pass(1), x.feed(128),
                x.feed(1), x.trade(0, 8, 1), x.trade(0, 0, 1), x.trade(0, 1, 0), x.trade(0, 1, 96), x.trade(0, 1, 1),
                x.see(8, 0), x.see(0, 97), x.see(0, 0), x.plan(4, 0), x.plan(0, 8), x.plan(1, 53), x.plan(1, 0),
                x.book(8, 0), x.book(0, 97), x.book(0, 0), x.tape(6, 0, 0), x.tape(0, 5, 0), x.tape(0, 0, 61),
                x.tape(0, 0, -1), x.item(6, 0, 1), x.item(5, 0, 1), x.item(0, 3, 1), x.undo(),
                x.shift(0, 0, 6, 0, 1), x.shift(0, 0, 5, 0, 1), x.shift(0, 0, 1, 0, 1), x.shift(0, 1, 0, 0, 3)};
            for (int k = 0; k < answers.length; k++) {
                due.holds("call " + k + " is refused", answers[k] < 0);
            }
            due.holds("all is as it was", Setups.all(x).equals(before));
        });
        says("what is asked changes nothing.", due -> {
            CanalTurns x = full();
            x.tape(0, BYTES, 3);
            List<Long> before = Setups.all(x);
            for (int n = -1; n < 14; n++) {
                x.reachOf(n, n % 3);
                x.of(n % 8, n);
                x.turn(n);
                x.lag(n);
                x.line(n);
                x.who(n);
                x.shared(n, 0);
                x.told(n);
                x.tradeOf(n, 0);
                x.judge(0, n);
                x.count(n);
                x.peek(0, n);
            }
            due.holds("all is as it was", Setups.all(x).equals(before));
        });
    }

    private void constants() {
        says("The constants: `NO = Long.MIN_VALUE`: There is no such number.", due -> {
            due.is("NO", CanalTurns.NO, Long.MIN_VALUE);
            CanalTurns x = new CanalTurns();
            due.is("odds", x.odds(0, 0), Long.MIN_VALUE);
            due.is("mean", x.mean(0), Long.MIN_VALUE);
            due.is("peek", x.peek(0, 0), Long.MIN_VALUE);
        });
    }

    private void parts() {
        part("reaches, fields", "field", "renew", "absent", "reach", "reachOf", "hours", "rule", "pass", "of", "feed",
            "read");
        part("turns", "turn", "lag", "line", "who", "shared", "told");
        part("trades, weeks", "trade", "undoTrade", "tradeOf", "chain", "over", "uneven", "evenest");
        part("seen, odds", "see", "fits", "odds", "mean");
        part("plans, books", "plan", "ends", "book", "looked");
        part("judging, the image, tapes", "judge", "image", "undo", "count", "tape", "item", "peek", "shift");
    }

    /** The calls stand behind that line in the file, ahead of the next one. */
    private void part(String name, String... calls) {
        String words = "Ahead of the calls `" + String.join("`, `", calls) + "` the interface says: ---- " + name + ".";
        says(words, due -> {
            String file = file();
            int from = file.indexOf("// ---- " + name + "\n");
            due.holds("the file has the line", from >= 0);
            int to = from < 0 ? -1 : file.indexOf("// ---- ", from + 1);
            for (String call : calls) {
                int at = file.indexOf(" " + call + "(", file.indexOf("public CanalTurns()"));
                due.holds(call + " stands behind it", at > from && at < to);
            }
        });
    }

    private static String file() {
        try {
            return Files.readString(Path.of("src/main/java/CanalTurns.java"));
        } catch (IOException e) {
            return "";
        }
    }
}
