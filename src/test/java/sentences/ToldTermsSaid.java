/** Terms, part 2: the PLAN and its ENDS, the BOOK, THE IMAGE. */
final class ToldTermsSaid extends Said {
    private static final int ABSENT = 0, WEEKS = 1, RULE = 2, HOURS = 3;

    @Override
    void tell() {
        of("Terms 2");
        planned();
        rows();
        ends();
        book();
        image();
    }

    private static void endsAre(Due due, String when, CanalTurns x, int water, int lags, int nights) {
        due.is("WATER " + when, x.ends(0), water);
        due.is("LAGS " + when, x.ends(1), lags);
        due.is("by NIGHT " + when, x.ends(2), nights);
    }

    /** A FIELD on each REACH. By RULE 1 the LAGS are 4, 4, 5, 6 in WEEKS that leave 0, 1, 2, 3 by 4. */
    private static CanalTurns four() {
        CanalTurns x = new CanalTurns();
        for (int r = 0; r < 4; r++) {
            x.field(r, 1);
        }
        return x;
    }

    private static void lagsIn(Due due, String when, CanalTurns x, int want) {
        due.is("LAGS " + when, x.ends(1), want);
    }

    /** FIELD 0 has 0 .. 9, FIELD 1 on REACH 1 has 14 .. 23; without FIELD 1 all HOURS are 0's. */
    private static CanalTurns two() {
        CanalTurns x = Setups.flat(1, 1);
        x.renew(1, 0, 1);
        x.reach(1, 0, 4);
        return x;
    }

    private void planned() {
        says("A PLAN told by hand: what goes on (0 FIELD n is ABSENT, or isn't any more;", due -> {
            CanalTurns x = two();
            endsAre(due, "at first", x, 950 + 900, 4, 12);
            x.plan(ABSENT, 1);
            endsAre(due, "without FIELD 1", x, 2280, 0, 12);
            x.plan(ABSENT, 1);
            endsAre(due, "with it again", x, 950 + 900, 4, 12);
            x.plan(ABSENT, 0);
            endsAre(due, "without FIELD 0", x, 1800, 4, 8);
            x.plan(ABSENT, 1);
            endsAre(due, "without both", x, 0, 0, 0);
            due.is("ABSENT stays", x.of(1, 2), 0);
        });
        says("1 n WEEKS (0 .. 52) go by", due -> {
            CanalTurns x = four();
            x.rule(1);
            due.is("-1 WEEKS", x.plan(WEEKS, -1), BAD);
            due.is("53 WEEKS", x.plan(WEEKS, 53), BAD);
            due.is("0 WEEKS", x.plan(WEEKS, 0), 1);
            lagsIn(due, "in WEEK 0", x, 4);
            x.plan(WEEKS, 3);
            lagsIn(due, "in WEEK 3", x, 6);
            due.is("52 WEEKS", x.plan(WEEKS, 52), 3);
            lagsIn(due, "in WEEK 55", x, 6);
            x.plan(WEEKS, 51);
            lagsIn(due, "in WEEK 106", x, 5);
            due.is("WEEK stays", x.told(3), 0);
        });
        says("(999 at most);", due -> {
            CanalTurns x = four();
            x.rule(1);
            Setups.passTo(x, 998);
            x.plan(WEEKS, 1);
            lagsIn(due, "in WEEK 999", x, 6);
            x.plan(WEEKS, 1);
            lagsIn(due, "in WEEK 999 still", x, 6);
            x.plan(-1, 0);
            x.plan(WEEKS, 52);
            lagsIn(due, "in WEEK 999, not 1050", x, 6);
            x.plan(WEEKS, 0);
            x.plan(RULE, 1);
            lagsIn(due, "in WEEK 999 still", x, 6);
            due.is("WEEK stays", x.told(3), 998);
        });
    }

    private void rows() {
        says("2 RULE is n;", due -> {
            CanalTurns x = four();
            x.rule(1);
            x.pass(3);
            int[] lags = {4, 6, 4, 4};
            // From 1, 7, 13, 19 on 5 hours; from 4, 8, 14, 20 on 4, 5, 5, 4; 4 to 24; from 2, 8, 14, 19 on 5.
            int[] nights = {10, 7, 8, 10};
            for (int rule = 0; rule <= 3; rule++) {
                due.is("RULE " + rule, x.plan(RULE, rule), rule + 1);
                lagsIn(due, "by RULE " + rule, x, lags[rule]);
                due.is("by NIGHT by RULE " + rule, x.ends(2), nights[rule]);
            }
            due.is("RULE stays", x.told(2), 1);
        });
        says("3 HOURS are n;", due -> {
            CanalTurns x = Setups.flat(1);
            due.is("HOURS 8", x.plan(HOURS, 8), 1);
            endsAre(due, "by 8", x, 8 * 95, 0, 6);
            due.is("HOURS 96", x.plan(HOURS, 96), 2);
            endsAre(due, "by 96", x, 96 * 95, 0, 48);
            due.is("HOURS 7", x.plan(HOURS, 7), BAD);
            due.is("HOURS 97", x.plan(HOURS, 97), BAD);
            due.is("HOURS stay", x.told(1), 24);
        });
        says("8 rows at most;", due -> {
            CanalTurns x = Setups.flat(1);
            for (int k = 1; k <= 8; k++) {
                due.is("row " + k, x.plan(HOURS, 8 + k), k);
            }
            due.is("a ninth row", x.plan(HOURS, 8), FULL);
            due.is("rows", x.count(2), 8);
            due.is("WATER behind the eighth", x.ends(0), 16 * 95);
        });
        says("by each TRADES are gone):", due -> {
            int[][] rows = {{WEEKS, 0}, {RULE, 0}, {HOURS, 24}};
            for (int[] row : rows) {
                CanalTurns x = two();
                x.trade(1, 0, 10);
                endsAre(due, "with a TRADE", x, 1900, 4, 8);
                x.plan(row[0], row[1]);
                endsAre(due, "behind row " + row[0], x, 1850, 4, 12);
                due.is("TRADES stay", x.told(9), 1);
            }
        });
        says("by each TRADES are gone):", due -> {
            CanalTurns x = two();
            x.trade(1, 0, 10);
            x.plan(ABSENT, 1);
            x.plan(ABSENT, 1);
            endsAre(due, "behind two rows 0", x, 1850, 4, 12);
            CanalTurns y = two();
            y.field(3, 1);
            y.absent(2, true);
            y.trade(1, 0, 5);
            y.plan(ABSENT, 2);
            y.plan(ABSENT, 2);
            endsAre(due, "behind another's two rows 0", y, 1850, 4, 12);
        });
    }

    private void ends() {
        says("ENDS, behind all of it: WATER of all FIELDS; all LAGS; all hours by NIGHT.", due -> {
            CanalTurns x = two();
            endsAre(due, "of no row", x, 1850, 4, 12);
            x.plan(HOURS, 8);
            // 2 and 2 of 4: 0, 1 and 6, 7 o'clock.
            endsAre(due, "by HOURS 8", x, 190 + 180, 4, 2);
            x.plan(WEEKS, 2);
            // From 16 o'clock on: 16, 17 and 22, 23.
            endsAre(due, "in WEEK 2", x, 190 + 180, 4, 2);
            x.plan(ABSENT, 1);
            // 16 .. 23.
            endsAre(due, "without FIELD 1", x, 760, 0, 6);
            due.is("the PLAN stays", x.count(2), 3);
        });
        says("ENDS, behind all of it:", due -> {
            CanalTurns x = new CanalTurns();
            x.plan(HOURS, 96);
            x.plan(WEEKS, 3);
            endsAre(due, "without FIELDS", x, 0, 0, 0);
        });
    }

    private void book() {
        says("A BOOK told by hand: FIELDS, hours (0 .. 96; 8 rows at most):", due -> {
            CanalTurns x = Setups.flat(1);
            due.is("hours -1", x.book(0, -1), BAD);
            due.is("hours 97", x.book(0, 97), BAD);
            due.is("hours 0", x.book(0, 0), 1);
            due.is("hours 96", x.book(0, 96), 2);
            for (int k = 3; k <= 8; k++) {
                due.is("row " + k, x.book(0, 24), k);
            }
            due.is("a ninth row", x.book(0, 24), FULL);
            due.is("rows", x.count(3), 8);
        });
        says("LOOKED at: the number (from 0) of the first of these rows that HAS otherwise (-5: none).", due -> {
            CanalTurns x = Setups.flat(1, 1);
            due.is("no row", x.looked(), NOT_ANY);
            for (int k = 0; k < 7; k++) {
                x.book(k % 2, 12);
            }
            due.is("none otherwise", x.looked(), NOT_ANY);
            x.book(1, 13);
            due.is("the last", x.looked(), 7);
            x.trade(0, 1, 1);
            due.is("the first", x.looked(), 0);
            x.book(-1, 0);
            x.book(0, 11);
            x.book(1, 12);
            x.book(1, 11);
            due.is("the second, with a TRADE", x.looked(), 1);
            x.absent(1, true);
            x.book(-1, 0);
            x.book(1, 0);
            x.book(0, 24);
            due.is("none otherwise, one ABSENT", x.looked(), NOT_ANY);
        });
    }

    private void image() {
        says("THE IMAGE: REACHES,", due -> {
            for (int r = 0; r < 4; r++) {
                CanalTurns x = new CanalTurns();
                x.reach(r, 0, 7);
                x.reach(r, 1, 17);
                x.image();
                x.reach(r, 0, 8);
                x.reach(r, 1, 18);
                x.undo();
                due.is("FILL", x.reachOf(r, 0), 7);
                due.is("LOSS", x.reachOf(r, 1), 17);
            }
        });
        says("FIELDS,", due -> {
            CanalTurns x = new CanalTurns();
            for (int f = 0; f < 7; f++) {
                x.field(f % 4, f + 1);
            }
            x.absent(3, true);
            x.image();
            for (int f = 0; f < 7; f++) {
                x.renew(f, 0, 3 - f % 4);
                x.renew(f, 1, 9);
                x.absent(f, f != 3);
            }
            x.field(0, 1);
            due.is("undo", x.undo(), 7);
            due.is("FIELDS", x.told(0), 7);
            for (int f = 0; f < 7; f++) {
                due.is("REACH", x.of(f, 0), f % 4);
                due.is("SHARE", x.of(f, 1), f + 1);
                due.is("ABSENT", x.of(f, 2), f == 3 ? 1 : 0);
            }
        });
        says("HOURS, WEEK, RULE,", due -> {
            CanalTurns x = new CanalTurns();
            x.hours(30);
            x.pass(7);
            x.rule(2);
            x.image();
            x.hours(40);
            x.pass(8);
            x.rule(3);
            x.undo();
            due.is("HOURS", x.told(1), 30);
            due.is("WEEK", x.told(3), 7);
            due.is("RULE", x.told(2), 2);
        });
        says("TRADES,", due -> {
            CanalTurns x = Setups.flat(1, 1, 1);
            x.trade(0, 1, 3);
            x.trade(1, 2, 11);
            x.image();
            x.undoTrade();
            x.trade(1, 0, 2);
            x.hours(30);
            x.undo();
            due.is("TRADES", x.told(9), 2);
            due.is("the second's FIELD a", x.tradeOf(1, 0), 1);
            due.is("the second's FIELD b", x.tradeOf(1, 1), 2);
            due.is("the second's hours", x.tradeOf(1, 2), 11);
            due.is("FIELD 2 HAS", x.of(2, 3), 19);
        });
        says("SEEN,", due -> {
            CanalTurns x = Setups.flat(1);
            x.see(0, 40);
            x.image();
            x.see(-1, 0);
            x.see(0, 50);
            x.see(0, 50);
            x.undo();
            due.is("SEEN", x.count(1), 1);
            due.is("HOURS that fit", x.fits(1), 40);
        });
        says("the PLAN,", due -> {
            CanalTurns x = Setups.flat(1);
            x.plan(HOURS, 40);
            x.plan(WEEKS, 1);
            x.image();
            x.plan(-1, 0);
            x.plan(HOURS, 50);
            x.undo();
            due.is("rows", x.count(2), 2);
            due.is("WATER of it", x.ends(0), 40 * 95);
        });
        says("the BOOK.", due -> {
            CanalTurns x = Setups.flat(1);
            x.book(0, 24);
            x.book(0, 23);
            x.image();
            x.book(-1, 0);
            x.book(0, 23);
            x.undo();
            due.is("rows", x.count(3), 2);
            due.is("LOOKED at", x.looked(), 1);
        });
    }
}
