/** Promises 19 to 25: trade, undoTrade, tradeOf, chain, over, uneven, evenest; and by what TRADES are gone. */
public final class TradesTest {
    private static final Due due = new Due();

    public static void main(String[] args) {
        trading();
        tradesFull();
        undoing();
        gone();
        goneByClauses();
        chains();
        overWeeks();
        overTheLastWeek();
        evenness();
        evenestIsTheLast();
        due.end();
    }

    private static void trading() {
        CanalTurns x = Setups.three();
        due.is("trade(3, 0, 1)", x.trade(3, 0, 1), -1);
        due.is("trade(-1, 0, 1)", x.trade(-1, 0, 1), -1);
        due.is("trade(0, 3, 1)", x.trade(0, 3, 1), -1);
        due.is("trade(0, -1, 1)", x.trade(0, -1, 1), -1);
        due.is("trade(1, 1, 1)", x.trade(1, 1, 1), -1);
        due.is("trade(1, 1, 97)", x.trade(1, 1, 97), -1);
        due.is("trade(0, 1, 0)", x.trade(0, 1, 0), -2);
        due.is("trade(0, 1, 97)", x.trade(0, 1, 97), -2);
        due.is("trade(0, 1, -1)", x.trade(0, 1, -1), -2);
        due.is("trade(0, 1, 96)", x.trade(0, 1, 96), -3);
        due.is("trade(0, 1, 10)", x.trade(0, 1, 10), -3);
        due.is("trade(0, 1, 9)", x.trade(0, 1, 9), 1);
        due.is("trade(0, 2, 1)", x.trade(0, 2, 1), -3);
        due.is("trade(1, 2, 14)", x.trade(1, 2, 14), 2);
        due.is("HAS", x.of(0, 3), 0);
        due.is("HAS", x.of(1, 3), 0);
        due.is("HAS", x.of(2, 3), 19);
        due.is("BEGINS", x.of(2, 4), 5);
        due.is("TURNS stay", x.told(7), 3);
        due.is("LAGS stay", x.told(4), 5);
        int[][] want = {{0, 1, 9}, {1, 2, 14}};
        for (int k = 0; k < 2; k++) {
            for (int what = 0; what < 3; what++) {
                due.is("tradeOf(" + k + ", " + what + ")", x.tradeOf(k, what), want[k][what]);
            }
        }
        due.is("tradeOf(2, 0)", x.tradeOf(2, 0), -1);
        due.is("tradeOf(-1, 0)", x.tradeOf(-1, 0), -1);
        due.is("tradeOf(0, 3)", x.tradeOf(0, 3), -1);
        due.is("tradeOf(0, -1)", x.tradeOf(0, -1), -1);
        x.absent(1, true);
        due.is("from one who is ABSENT", x.trade(1, 0, 1), -3);
        due.is("to one who is ABSENT", x.trade(0, 1, 1), -3);
        due.is("ABSENT, h not as told", x.trade(0, 1, 0), -2);
        due.is("no TRADES", x.told(9), 0);
    }

    private static void tradesFull() {
        CanalTurns x = Setups.three();
        for (int k = 1; k <= 12; k++) {
            due.is("trade " + k, k % 2 == 1 ? x.trade(0, 1, 3) : x.trade(1, 0, 3), k);
        }
        due.is("trade, thirteenth", x.trade(0, 1, 1), -4);
        due.is("HAS fewer goes ahead", x.trade(0, 1, 10), -3);
        due.is("BAD goes ahead", x.trade(0, 1, 97), -2);
        due.is("TRADES", x.told(9), 12);
        due.is("undoTrade", x.undoTrade(), 11);
        due.is("trade", x.trade(0, 1, 1), 12);
        CanalTurns y = Setups.flat(1, 1);
        y.hours(96);
        due.is("48 hours", y.trade(0, 1, 48), 1);
        due.is("96 hours", y.trade(1, 0, 96), 2);
        due.is("HAS", y.of(0, 3), 96);
    }

    private static void undoing() {
        CanalTurns x = Setups.three();
        due.is("undoTrade, none", x.undoTrade(), -3);
        x.trade(0, 1, 1);
        x.trade(0, 2, 3);
        due.is("undoTrade", x.undoTrade(), 1);
        due.is("HAS", x.of(2, 3), 5);
        due.is("HAS", x.of(0, 3), 8);
        due.is("undoTrade", x.undoTrade(), 0);
        due.is("HAS", x.of(0, 3), 9);
        due.is("undoTrade, none", x.undoTrade(), -3);
    }

    private static CanalTurns traded() {
        CanalTurns x = Setups.three();
        due.is("a TRADE", x.trade(0, 1, 1), 1);
        return x;
    }

    private static void left(String call, CanalTurns x, int want) {
        due.is("TRADES behind " + call, x.told(9), want);
    }

    private static void gone() {
        CanalTurns x = traded();
        x.field(4, 1);
        x.renew(0, 0, 4);
        x.absent(3, true);
        x.reach(0, 0, 10);
        x.hours(97);
        x.rule(4);
        x.pass(53);
        x.image();
        x.see(0, 1);
        x.plan(1, 1);
        x.book(0, 1);
        x.tape(0, 0, 1);
        x.feed('h');
        x.read();
        x.undo();
        left("what is refused, or asked", x, 1);
        x.field(0, 1);
        left("field", x, 0);
        x = traded();
        x.renew(0, 0, 1);
        left("renew", x, 0);
        x = traded();
        x.absent(0, false);
        left("absent", x, 0);
        x = traded();
        x.reach(3, 1, 5);
        left("reach", x, 0);
        x = traded();
        x.hours(24);
        left("hours", x, 0);
        x = traded();
        x.rule(0);
        left("rule", x, 0);
        x = traded();
        x.pass(0);
        left("pass", x, 0);
        x = traded();
        Setups.passTo(x, 999);
        x.trade(0, 1, 1);
        x.pass(1);
        left("pass, FULL", x, 1);
        x = Setups.flat(1, 1, 1, 1, 1, 1, 1, 1);
        x.trade(0, 1, 1);
        x.field(0, 1);
        left("field, FULL", x, 1);
    }

    private static void goneByClauses() {
        String[] refused = {"f40", "c405", "c0026", "h7", "u4", "a3", "p3"};
        String[] done = {"f01", "c025", "c3105", "h24", "u0", "a2", "p0"};
        for (String text : refused) {
            CanalTurns x = traded();
            due.is(text, Setups.read(x, text), 0);
            left(text, x, 1);
        }
        for (String text : done) {
            CanalTurns x = traded();
            due.is(text, Setups.read(x, text), 1);
            left(text, x, 0);
        }
        CanalTurns x = traded();
        Setups.read(x, "h24;h");
        left("a FAULT", x, 1);
    }

    private static void chains() {
        CanalTurns x = Setups.flat(1, 1, 1, 1);
        due.is("no TRADES", x.chain(0), 0);
        x.trade(1, 2, 1);
        x.trade(0, 1, 1);
        due.is("an earlier TRADE does not count", x.chain(0), 2);
        due.is("chain(1)", x.chain(1), 4);
        due.is("chain(2)", x.chain(2), 0);
        x.trade(2, 3, 1);
        due.is("chain(1)", x.chain(1), 12);
        due.is("chain(0)", x.chain(0), 2);
        x.trade(1, 3, 1);
        due.is("chain(0)", x.chain(0), 10);
        x.trade(3, 0, 1);
        due.is("back to itself", x.chain(0), 11);
        due.is("chain(1)", x.chain(1), 13);
        due.is("chain(4)", x.chain(4), -1);
        due.is("chain(-1)", x.chain(-1), -1);
        CanalTurns y = Setups.flat(1, 1, 1, 1, 1, 1, 1, 1);
        for (int f = 0; f < 7; f++) {
            y.trade(f, f + 1, 1);
        }
        for (int f = 0; f < 8; f++) {
            due.is("chain of eight " + f, y.chain(f), 256 - (2 << f));
        }
    }

    private static void overWeeks() {
        CanalTurns x = Setups.three();
        x.rule(1);
        int[] hours = {26, 14, 14};
        int[] nights = {8, 9, 7};
        for (int f = 0; f < 3; f++) {
            due.is("over(" + f + ", 3, 0)", x.over(f, 3, 0), hours[f]);
            due.is("over(" + f + ", 3, 1)", x.over(f, 3, 1), nights[f]);
        }
        due.is("over(0, 1, 0)", x.over(0, 1, 0), 9);
        due.is("over(0, 12, 0)", x.over(0, 12, 0), 104);
        // 4 .. 8 go: FIELD 1 from 2 to 3, 0 from 6 to 19 (18 by NIGHT), 2 from 19 to 24.
        x.trade(1, 0, 4);
        due.is("TRADES in WEEK alone", x.over(0, 3, 0), 30);
        due.is("TRADES in WEEK alone", x.over(1, 3, 0), 10);
        due.is("by NIGHT", x.over(1, 3, 1), 1 + 5 + 0);
        due.is("by NIGHT", x.over(0, 3, 1), 1 + 1 + 6);
        due.is("over(3, 1, 0)", x.over(3, 1, 0), -1);
        due.is("over(-1, 1, 0)", x.over(-1, 1, 0), -1);
        due.is("over(0, 1, 2)", x.over(0, 1, 2), -1);
        due.is("over(0, 1, -1)", x.over(0, 1, -1), -1);
        due.is("over(0, 0, 2)", x.over(0, 0, 2), -1);
        due.is("over(0, 0, 0)", x.over(0, 0, 0), -2);
        due.is("over(0, 13, 0)", x.over(0, 13, 0), -2);
        due.is("WEEK stays", x.told(3), 0);
        x.absent(0, true);
        due.is("ABSENT", x.over(0, 12, 0), 0);
        due.is("ABSENT", x.over(0, 12, 1), 0);
    }

    /** It goes on beyond WEEK 999: even WEEKS come behind odd ones. */
    private static void overTheLastWeek() {
        CanalTurns x = Setups.three();
        Setups.passTo(x, 999);
        x.rule(2);
        due.is("over(2, 1, 1)", x.over(2, 1, 1), 1);
        due.is("over(2, 2, 1)", x.over(2, 2, 1), 6);
        due.is("over(2, 3, 1)", x.over(2, 3, 1), 7);
    }

    /**
     * HAVE 4, 2, 2 of 8; in WEEK 1 from 8 o'clock on, in WEEK 2 from 16 on, so that all NIGHT is the last 6 hours of
     * WEEK 2: by RULE 3 the TURNS are 0, 2, 1 then, by the others 1, 0, 2 or 2, 1, 0.
     */
    private static void evenestIsTheLast() {
        CanalTurns x = Setups.flat(2, 1, 1);
        x.renew(0, 0, 1);
        x.renew(2, 0, 1);
        x.reach(1, 0, 0);
        x.hours(8);
        x.pass(1);
        int[] uneven = {4, 4, 4, 0};
        for (int rule = 0; rule < 4; rule++) {
            x.rule(rule);
            due.is("uneven(2), RULE " + rule, x.uneven(2), uneven[rule]);
            due.is("uneven(1), RULE " + rule, x.uneven(1), 0);
        }
        due.is("evenest(2)", x.evenest(2), 3);
        due.is("evenest(1)", x.evenest(1), 0);
        x.rule(0);
        due.is("over(0, 2, 1)", x.over(0, 2, 1), 4);
        due.is("over(1, 2, 1)", x.over(1, 2, 1), 0);
        due.is("over(2, 2, 1)", x.over(2, 2, 1), 2);
    }

    private static void evenness() {
        CanalTurns x = Setups.three();
        due.is("evenest(3)", x.evenest(3), 1);
        due.is("evenest(1)", x.evenest(1), 0);
        int[] uneven = {12, 2, 10, 2};
        for (int rule = 0; rule < 4; rule++) {
            x.rule(rule);
            due.is("uneven(3), RULE " + rule, x.uneven(3), uneven[rule]);
            due.is("evenest(3), RULE " + rule, x.evenest(3), 1);
        }
        x.trade(0, 1, 5);
        due.is("without TRADES", x.uneven(3), 2);
        due.is("without TRADES", x.uneven(1), 4);
        due.is("TRADES stay", x.told(9), 1);
        due.is("uneven(0)", x.uneven(0), -2);
        due.is("uneven(13)", x.uneven(13), -2);
        due.is("evenest(0)", x.evenest(0), -2);
        due.is("evenest(13)", x.evenest(13), -2);
        x.rule(0);
        x.absent(0, true);
        // FIELD 1 from 2 to 7 by 4, FIELD 2 from 10 to 24 by 6.
        due.is("of those not ABSENT", x.uneven(1), 2);
        due.is("twelve", x.uneven(12), 24);
        x.absent(1, true);
        due.is("of one", x.uneven(12), 0);
        x.absent(2, true);
        due.is("of none", x.uneven(1), 0);
        due.is("of none", x.evenest(12), 0);
    }
}
