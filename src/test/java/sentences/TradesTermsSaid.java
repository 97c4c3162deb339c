/** Terms, part 1: how many TRADES there are, and by what they are gone. */
final class TradesTermsSaid extends Said {
    private interface Call {
        int on(CanalTurns x);
    }

    @Override
    void tell() {
        of("Terms 1");
        howMany();
        gone();
        staying();
    }

    /** Three FIELDS and a TRADE, as all that is told of them was at first. */
    private static CanalTurns traded() {
        CanalTurns x = new CanalTurns();
        x.field(0, 1);
        x.field(0, 1);
        x.field(1, 2);
        x.trade(0, 1, 1);
        return x;
    }

    private static void tradesBehind(Due due, String name, int want, Call call) {
        CanalTurns x = traded();
        due.is("TRADES ahead of " + name, x.told(9), 1);
        int answer = call.on(x);
        due.holds(name + " is " + (answer < 0 ? "" : "not ") + "refused", answer < 0 == (want == 1));
        due.is("TRADES behind " + name, x.told(9), want);
    }

    private static void goneBy(Due due, String name, Call call) {
        tradesBehind(due, name, 0, call);
    }

    private static void notGoneBy(Due due, String name, Call call) {
        tradesBehind(due, name, 1, call);
    }

    private static void clause(Due due, String text, int done, int trades) {
        CanalTurns x = traded();
        due.is("CLAUSES done of " + text, Setups.read(x, text), done);
        due.is("TRADES behind " + text, x.told(9), trades);
    }

    private void howMany() {
        says("TRADES: 12 at most;", due -> {
            CanalTurns x = traded();
            for (int k = 2; k <= 12; k++) {
                due.is("TRADE " + k, k % 2 == 0 ? x.trade(1, 0, 1) : x.trade(0, 1, 1), k);
            }
            due.is("a thirteenth", x.trade(1, 0, 1), FULL);
            due.is("TRADES", x.told(9), 12);
        });
    }

    private void gone() {
        says("all are gone as soon as anything else of REACHES, FIELDS, HOURS, RULE, WEEK is told anew (by a call,",
            due -> {
            goneBy(due, "field", x -> x.field(3, 1));
            goneBy(due, "renew, REACH", x -> x.renew(0, 0, 2));
            goneBy(due, "renew, SHARE", x -> x.renew(0, 1, 2));
            goneBy(due, "absent", x -> x.absent(2, true));
            goneBy(due, "reach, FILL", x -> x.reach(3, 0, 0));
            goneBy(due, "reach, LOSS", x -> x.reach(3, 1, 0));
            goneBy(due, "hours", x -> x.hours(25));
            goneBy(due, "rule", x -> x.rule(1));
            goneBy(due, "pass", x -> x.pass(1));
        });
        says("all are gone", due -> {
            CanalTurns x = traded();
            x.trade(0, 1, 2);
            x.trade(1, 2, 3);
            x.hours(25);
            due.is("TRADES, of three", x.told(9), 0);
            due.is("the first", x.tradeOf(0, 2), NONE);
            due.is("CHAIN", x.chain(0), 0);
            x.hours(24);
            due.is("FIELD 2 HAS, as without them", x.of(2, 3), 11);
            due.is("a TRADE comes", x.trade(0, 1, 1), 1);
        });
        says("or a CLAUSE,", due -> {
            clause(due, "f31", 1, 0);
            clause(due, "c300", 1, 0);
            clause(due, "h25", 1, 0);
            clause(due, "u1", 1, 0);
            clause(due, "a2", 1, 0);
            clause(due, "a2;p2", 2, 0);
        });
        says("also if it stays as it was,", due -> {
            goneBy(due, "renew, REACH", x -> x.renew(0, 0, 0));
            goneBy(due, "renew, SHARE", x -> x.renew(0, 1, 1));
            goneBy(due, "absent", x -> x.absent(2, false));
            goneBy(due, "reach, FILL", x -> x.reach(3, 0, 1));
            goneBy(due, "reach, LOSS", x -> x.reach(3, 1, 5));
            goneBy(due, "hours", x -> x.hours(24));
            goneBy(due, "rule", x -> x.rule(0));
            clause(due, "c315", 1, 0);
            clause(due, "h24", 1, 0);
            clause(due, "u0", 1, 0);
            clause(due, "p2", 1, 0);
        });
        says("or 0 WEEKS go by).", due -> goneBy(due, "pass(0)", x -> x.pass(0)));
    }

    private void staying() {
        says("that isn't refused;", due -> {
            notGoneBy(due, "field", x -> x.field(4, 1));
            notGoneBy(due, "renew, REACH", x -> x.renew(0, 0, 4));
            notGoneBy(due, "renew, SHARE", x -> x.renew(0, 1, 0));
            notGoneBy(due, "renew, no FIELD", x -> x.renew(3, 1, 1));
            notGoneBy(due, "absent", x -> x.absent(3, true));
            notGoneBy(due, "reach, FILL", x -> x.reach(0, 0, 10));
            notGoneBy(due, "reach, LOSS", x -> x.reach(0, 1, 26));
            notGoneBy(due, "reach, no REACH", x -> x.reach(4, 1, 1));
            notGoneBy(due, "hours", x -> x.hours(97));
            notGoneBy(due, "rule", x -> x.rule(4));
            notGoneBy(due, "pass", x -> x.pass(53));
        });
        says("that isn't refused;", due -> {
            CanalTurns x = Setups.flat(1, 1, 1, 1, 1, 1, 1, 1);
            x.trade(0, 1, 1);
            due.is("a ninth FIELD", x.field(0, 1), FULL);
            due.is("TRADES then", x.told(9), 1);
            Setups.passTo(x, 999);
            x.trade(0, 1, 1);
            due.is("a WEEK behind the last", x.pass(1), FULL);
            due.is("TRADES then", x.told(9), 1);
        });
        says("that isn't refused;", due -> {
            clause(due, "f41", 0, 1);
            clause(due, "f00", 0, 1);
            clause(due, "c411", 0, 1);
            clause(due, "c0126", 0, 1);
            clause(due, "h7", 0, 1);
            clause(due, "u4", 0, 1);
            clause(due, "a3", 0, 1);
            clause(due, "p3", 0, 1);
            clause(due, "h24;", -10 - 4, 1);
        });
        says("anything else of REACHES, FIELDS, HOURS, RULE, WEEK", due -> {
            CanalTurns x = traded();
            x.see(0, 1);
            x.plan(2, 1);
            x.book(0, 1);
            x.image();
            x.tape(0, 0, 1);
            x.item(0, 0, 1);
            x.feed('h');
            x.ends(0);
            x.trade(0, 1, 1);
            due.is("TRADES behind what tells nothing of these", x.told(9), 2);
        });
    }
}
