/** Promises 13 to 18: turn, lag, line, who, shared, told. */
final class TurnsSaid extends Said {
    @Override
    void tell() {
        turn();
        lag();
        line();
        who();
        shared();
        told();
    }

    private void turn() {
        of("Promise 13: turn");
        says("The FIELD of the k-th TURN (from 0).", due -> {
            CanalTurns x = Setups.three();
            int[] want = {1, 0, 2};
            for (int k = 0; k < 3; k++) {
                due.is("turn(" + k + ")", x.turn(k), want[k]);
            }
            x.absent(1, true);
            due.is("turn(0), the first ABSENT", x.turn(0), 0);
            due.is("turn of eight", Setups.flat(1, 1, 1, 1, 1, 1, 1, 1).turn(7), 7);
        });
        says("NONE.", due -> {
            CanalTurns x = Setups.three();
            due.is("turn(-1)", x.turn(-1), NONE);
            due.is("turn(3)", x.turn(3), NONE);
            due.is("turn(MAX)", x.turn(GREATEST_INT), NONE);
            x.absent(1, true);
            due.is("turn(2), one ABSENT", x.turn(2), NONE);
            due.is("turn(0), no FIELDS", new CanalTurns().turn(0), NONE);
            due.is("turn(8) of eight", Setups.flat(1, 1, 1, 1, 1, 1, 1, 1).turn(8), NONE);
        });
    }

    private void lag() {
        of("Promise 14: lag");
        says("LAG of the k-th TURN.", due -> {
            CanalTurns x = Setups.three();
            int[] want = {2, 3, 0};
            for (int k = 0; k < 3; k++) {
                due.is("lag(" + k + ")", x.lag(k), want[k]);
            }
            x.absent(1, true);
            due.is("lag(0), the first ABSENT", x.lag(0), 5);
            due.is("lag(1)", x.lag(1), 0);
        });
        says("NONE.", due -> {
            CanalTurns x = Setups.three();
            due.is("lag(-1)", x.lag(-1), NONE);
            due.is("lag(3)", x.lag(3), NONE);
            due.is("lag(MIN)", x.lag(LEAST_INT), NONE);
            x.absent(1, true);
            due.is("lag(2), one ABSENT", x.lag(2), NONE);
            due.is("lag(0), no FIELDS", new CanalTurns().lag(0), NONE);
        });
    }

    private void line() {
        of("Promise 15: line");
        says("The FIELD at the k-th place of the LINE.", due -> {
            CanalTurns x = Setups.three();
            x.absent(0, true);
            x.rule(1);
            x.pass(1);
            int[] want = {1, 0, 2};
            for (int k = 0; k < 3; k++) {
                due.is("line(" + k + ")", x.line(k), want[k]);
            }
        });
        says("NONE.", due -> {
            CanalTurns x = Setups.three();
            due.is("line(-1)", x.line(-1), NONE);
            due.is("line(3)", x.line(3), NONE);
            due.is("line(MAX)", x.line(GREATEST_INT), NONE);
            due.is("line(0), no FIELDS", new CanalTurns().line(0), NONE);
            due.is("line(8) of eight", Setups.flat(1, 1, 1, 1, 1, 1, 1, 1).line(8), NONE);
        });
    }

    private void who() {
        of("Promise 16: who");
        says("The FIELD whose TURN has hour t (0 .. 95);", due -> {
            CanalTurns x = Setups.flat(1, 1);
            x.hours(96);
            due.is("who(0)", x.who(0), 0);
            due.is("who(47)", x.who(47), 0);
            due.is("who(48)", x.who(48), 1);
            due.is("who(95)", x.who(95), 1);
            x.trade(0, 1, 47);
            due.is("who(0), with a TRADE", x.who(0), 0);
            due.is("who(1), with a TRADE", x.who(1), 1);
        });
        says("-5: none.", due -> {
            CanalTurns x = Setups.three();
            due.is("in a LAG", x.who(0), NOT_ANY);
            due.is("in a LAG between TURNS", x.who(9), NOT_ANY);
            due.is("behind the last", x.who(24), NOT_ANY);
            due.is("behind the last", x.who(95), NOT_ANY);
            due.is("no FIELDS", new CanalTurns().who(0), NOT_ANY);
            CanalTurns y = Setups.flat(1);
            due.is("ahead of ABSENT", y.who(0), 0);
            y.absent(0, true);
            due.is("all ABSENT", y.who(0), NOT_ANY);
            CanalTurns z = Setups.flat(1, 1, 1, 1, 1, 1, 1, 1);
            due.is("the last of eight", z.who(23), 7);
            due.is("behind the last of eight", z.who(24), NOT_ANY);
        });
        says("BAD.", due -> {
            CanalTurns x = Setups.flat(1);
            due.is("who(-1)", x.who(-1), BAD);
            due.is("who(96)", x.who(96), BAD);
            due.is("who(MIN)", x.who(LEAST_INT), BAD);
            due.is("who(MAX)", x.who(GREATEST_INT), BAD);
        });
    }

    private void shared() {
        of("Promise 17: shared");
        says("What a FIELD has of n (0 .. 999) SHARED OUT among all.", due -> {
            CanalTurns x = Setups.flat(6, 6, 2);
            x.absent(0, true);
            int[][] want = {{0, 0, 0, 0}, {10, 4, 4, 2}, {11, 5, 5, 1}, {999, 428, 428, 143}};
            for (int[] w : want) {
                for (int f = 0; f < 3; f++) {
                    due.is("shared(" + w[0] + ", " + f + ")", x.shared(w[0], f), w[f + 1]);
                }
            }
        });
        says("NONE;", due -> {
            CanalTurns x = Setups.flat(1, 1);
            due.is("shared(1, -1)", x.shared(1, -1), NONE);
            due.is("shared(1, 2)", x.shared(1, 2), NONE);
            due.is("shared(1, MAX)", x.shared(1, GREATEST_INT), NONE);
            due.is("shared(0, 0), no FIELDS", new CanalTurns().shared(0, 0), NONE);
        });
        says("BAD.", due -> {
            CanalTurns x = Setups.flat(1);
            due.is("shared(-1, 0)", x.shared(-1, 0), BAD);
            due.is("shared(1000, 0)", x.shared(1000, 0), BAD);
            due.is("shared(MAX, 0)", x.shared(GREATEST_INT, 0), BAD);
            due.is("shared(0, 0)", x.shared(0, 0), 0);
            due.is("shared(999, 0)", x.shared(999, 0), 999);
        });
    }

    private void told() {
        of("Promise 18: told");
        says("What 0 FIELDS, 1 HOURS, 2 RULE, 3 WEEK, 4 all LAGS, 5 LEFT, 6 all hours that FIELDS HAVE, 7 TURNS, "
            + "8 WATER of all, 9 TRADES, 10 all hours by NIGHT, 11 LESS.", due -> {
            CanalTurns x = Setups.three();
            x.rule(2);
            x.pass(2);
            x.trade(0, 1, 2);
            // 7, 7, 5 hours: 2 .. 8, 12 .. 18, 19 .. 23.
            int[] want = {3, 24, 2, 2, 5, 19, 19, 3, 490 + 630 + 350, 1, 4 + 1 + 5, 0};
            for (int what = 0; what < 12; what++) {
                due.is("told(" + what + ")", x.told(what), want[what]);
            }
            x.hours(30);
            x.absent(2, true);
            x.rule(1);
            // FIELD 1 has 6 from 14 o'clock on, FIELD 0 13 and the ABSENT one's 6 from 23 on.
            int[] then = {3, 30, 1, 2, 5, 25, 25, 2, 6 * 90 + 19 * 70, 0, 2 + 7, 0};
            for (int what = 0; what < 12; what++) {
                due.is("told(" + what + ") then", x.told(what), then[what]);
            }
        });
        says("6 all hours that FIELDS HAVE,", due -> {
            CanalTurns x = Setups.flat(1);
            x.absent(0, true);
            due.is("LEFT", x.told(5), 24);
            due.is("all hours that FIELDS HAVE, when they are lost", x.told(6), 0);
        });
        says("10 all hours by NIGHT,", due -> {
            // With a LAG of 4 between: from 0 to 10 and from 14 to 24; then from 0 to 20.
            CanalTurns x = Setups.flat(1, 1);
            x.renew(1, 0, 1);
            x.reach(1, 0, 4);
            due.is("all hours by NIGHT", x.told(10), 12);
            x.trade(1, 0, 10);
            due.is("all hours by NIGHT, with a TRADE", x.told(10), 8);
        });
        says("11 LESS.", due -> {
            CanalTurns x = Setups.flat(6, 6, 2);
            x.hours(10);
            due.is("LESS, FIELD 2", x.told(11), 4);
            CanalTurns y = Setups.flat(2, 6, 6);
            y.hours(10);
            due.is("LESS, FIELD 0", y.told(11), 1);
        });
        says("NONE.", due -> {
            CanalTurns x = Setups.three();
            due.is("told(-1)", x.told(-1), NONE);
            due.is("told(12)", x.told(12), NONE);
            due.is("told(MIN)", x.told(LEAST_INT), NONE);
            due.is("told(MAX)", x.told(GREATEST_INT), NONE);
        });
    }
}
