/** Terms, part 1: LINE, TURNS, LAG, LEFT, SHARED OUT, what a FIELD HAS, CLOCK, NIGHT, WATER. */
final class TurnsTermsSaid extends Said {
    private static final int HEAD = 0, ON = 1, FLIP = 2, BACK = 3;

    @Override
    void tell() {
        of("Terms 1");
        line();
        order();
        lags();
        sharedOut();
        has();
        times();
        water();
    }

    /** FIELDS with SHARE 1 on these REACHES, whose FILLS are 1, 2, 4, 8. */
    private static CanalTurns on(int... reaches) {
        CanalTurns x = new CanalTurns();
        for (int r = 0; r < 4; r++) {
            x.reach(r, 0, 1 << r);
        }
        for (int reach : reaches) {
            x.field(reach, 1);
        }
        return x;
    }

    private static void turnsAre(Due due, CanalTurns x, int... want) {
        String when = "RULE " + x.told(2) + ", WEEK " + x.told(3) + ": TURN ";
        for (int k = 0; k < want.length; k++) {
            due.is(when + k, x.turn(k), want[k]);
        }
        due.is("TURNS", x.told(7), want.length);
    }

    private static void haveAre(Due due, CanalTurns x, int... want) {
        for (int f = 0; f < want.length; f++) {
            due.is("FIELD " + f + " HAS", x.of(f, 3), want[f]);
        }
    }

    private static void sharedAre(Due due, CanalTurns x, int n, int... want) {
        for (int f = 0; f < want.length; f++) {
            due.is("of " + n + " FIELD " + f + " has", x.shared(n, f), want[f]);
        }
    }

    private static CanalTurns ruledBy(int rule, int... shares) {
        CanalTurns x = Setups.flat(shares);
        x.rule(rule);
        return x;
    }

    private void line() {
        says("LINE: all FIELDS by REACH, the least first,", due -> {
            CanalTurns x = on(3, 1, 0, 2);
            x.absent(2, true);
            int[] want = {2, 1, 3, 0};
            for (int k = 0; k < 4; k++) {
                due.is("line(" + k + ")", x.line(k), want[k]);
            }
        });
        says("of one REACH by numbers.", due -> {
            CanalTurns x = on(1, 0, 1, 0, 1);
            int[] want = {1, 3, 0, 2, 4};
            for (int k = 0; k < 5; k++) {
                due.is("line(" + k + ")", x.line(k), want[k]);
            }
        });
    }

    private void order() {
        says("TURNS of a WEEK w: of n FIELDS in the LINE, which stand at 0, 1, .. n - 1, those come at 0, 1, .. that "
            + "stand, by RULE:", due -> {
            CanalTurns x = on(2, 0, 1);
            x.rule(ON);
            x.pass(1);
            turnsAre(due, x, 2, 0, 1);
            x.absent(1, true);
            turnsAre(due, x, 2, 0);
        });
        says("0 HEAD: there;", due -> {
            CanalTurns x = ruledBy(HEAD, 1, 1, 1);
            turnsAre(due, x, 0, 1, 2);
            x.pass(1);
            turnsAre(due, x, 0, 1, 2);
            Setups.passTo(x, 998);
            turnsAre(due, x, 0, 1, 2);
        });
        says("1 ON: w further (behind the last one the first is next);", due -> {
            CanalTurns x = ruledBy(ON, 1, 1, 1);
            turnsAre(due, x, 0, 1, 2);
            x.pass(1);
            turnsAre(due, x, 1, 2, 0);
            x.pass(1);
            turnsAre(due, x, 2, 0, 1);
            x.pass(1);
            turnsAre(due, x, 0, 1, 2);
            Setups.passTo(x, 998);
            turnsAre(due, x, 2, 0, 1);
        });
        says("2 FLIP: there in even WEEKS, as far from the end in odd ones;", due -> {
            CanalTurns x = ruledBy(FLIP, 1, 1, 1, 1);
            turnsAre(due, x, 0, 1, 2, 3);
            x.pass(1);
            turnsAre(due, x, 3, 2, 1, 0);
            x.pass(1);
            turnsAre(due, x, 0, 1, 2, 3);
            Setups.passTo(x, 999);
            turnsAre(due, x, 3, 2, 1, 0);
        });
        says("3 BACK: w less far (ahead of the first one the last is).", due -> {
            CanalTurns x = ruledBy(BACK, 1, 1, 1);
            turnsAre(due, x, 0, 1, 2);
            x.pass(1);
            turnsAre(due, x, 2, 0, 1);
            x.pass(1);
            turnsAre(due, x, 1, 2, 0);
            x.pass(1);
            turnsAre(due, x, 0, 1, 2);
            Setups.passTo(x, 998);
            turnsAre(due, x, 1, 2, 0);
        });
        says("ABSENT ones have no TURN; the others move up.", due -> {
            CanalTurns x = ruledBy(ON, 1, 1, 1);
            x.absent(0, true);
            turnsAre(due, x, 1, 2);
            due.is("which TURN the ABSENT one has", x.of(0, 8), NOT_ANY);
            due.is("which TURN the next one has", x.of(1, 8), 0);
            x.pass(2);
            turnsAre(due, x, 2, 1);
            x.absent(1, true);
            x.absent(2, true);
            turnsAre(due, x);
            due.is("a first TURN", x.turn(0), NONE);
        });
    }

    private void lags() {
        says("LAG of a TURN: of the first FILLS of all REACHES from 0 up to its own, together;", due -> {
            int[] want = {1, 3, 7, 15};
            for (int r = 0; r < 4; r++) {
                due.is("the first, on REACH " + r, on(r).lag(0), want[r]);
            }
            CanalTurns x = on(0, 2);
            x.absent(0, true);
            due.is("the first, behind an ABSENT one", x.lag(0), 7);
            for (int r = 0; r < 4; r++) {
                x.reach(r, 0, 0);
            }
            due.is("the first, all FILLS 0", x.lag(0), 0);
            for (int r = 0; r < 4; r++) {
                x.reach(r, 0, 9);
            }
            x.renew(1, 0, 3);
            due.is("the first, all FILLS 9", x.lag(0), 36);
        });
        says("of the first FILLS of all REACHES from 0 up to its own, together;", due -> {
            for (int f = 0; f < 8; f++) {
                CanalTurns x = on(1, 1, 1, 1, 1, 1, 1, 1);
                x.renew(f, 0, 0);
                due.is("FIELD " + f + " nearest to the head", x.lag(0), 1);
                due.is("the next one", x.lag(1), 2);
            }
        });
        says("of another one, if its REACH is further than that of the TURN ahead, FILLS of those behind that one's "
            + "up to its own, together;", due -> {
            due.is("on REACH 1, behind 0", on(0, 1).lag(1), 2);
            due.is("on REACH 3, behind 0", on(0, 3).lag(1), 14);
            due.is("on REACH 3, behind 2", on(2, 3).lag(1), 8);
            CanalTurns x = on(0, 2, 3);
            due.is("on REACH 3, behind 0 and 2", x.lag(2), 8);
            x.absent(1, true);
            due.is("on REACH 3, behind 0 and an ABSENT one", x.lag(1), 14);
            CanalTurns y = on(0, 1, 2);
            y.rule(ON);
            y.pass(2);
            due.is("on REACH 0, behind 2", y.lag(1), 0);
            due.is("on REACH 1, behind 0, behind 2", y.lag(2), 2);
        });
        says("else 0.", due -> {
            due.is("on the same REACH", on(2, 2).lag(1), 0);
            CanalTurns x = on(1, 2);
            x.rule(FLIP);
            x.pass(1);
            due.is("on REACH 2", x.lag(0), 7);
            due.is("nearer to the head", x.lag(1), 0);
        });
        says("LEFT: HOURS less all LAGS, 0 at least.", due -> {
            CanalTurns x = on(0, 2);
            due.is("LEFT", x.told(5), 24 - 7);
            x.hours(8);
            due.is("LEFT, 1", x.told(5), 1);
            x.reach(0, 0, 2);
            due.is("LEFT, none", x.told(5), 0);
            x.reach(0, 0, 3);
            due.is("LEFT, LAGS above HOURS", x.told(5), 0);
            haveAre(due, x, 0, 0);
            due.is("LEFT without FIELDS", on().told(5), 24);
        });
    }

    private void sharedOut() {
        says("SHARED OUT, n among some FIELDS (by numbers): each has n times its SHARE, by all their SHARES, cut;",
            due -> {
            sharedAre(due, Setups.flat(6, 6, 2), 14, 6, 6, 2);
            sharedAre(due, Setups.flat(1, 3), 0, 0, 0);
            // 99.9 and 899.1.
            sharedAre(due, Setups.flat(1, 9), 999, 100, 899);
            // 2.8 and 4.2.
            sharedAre(due, Setups.flat(2, 3), 7, 3, 4);
        });
        says("what is left goes, 1 to each, to those with the greatest rests of these divisions,", due -> {
            // By 14: 4 and 4, 4 and 4, 1 and 6.
            sharedAre(due, Setups.flat(6, 6, 2), 10, 4, 4, 2);
            // By 14: 4 and 10, 4 and 10, 1 and 8.
            sharedAre(due, Setups.flat(6, 6, 2), 11, 5, 5, 1);
        });
        says("of several the least FIELD.", due -> {
            CanalTurns x = Setups.flat(1, 1, 1);
            sharedAre(due, x, 1, 1, 0, 0);
            sharedAre(due, x, 2, 1, 1, 0);
            CanalTurns y = on(3, 0);
            sharedAre(due, y, 1, 1, 0);
        });
    }

    private void has() {
        says("What a FIELD HAS: LEFT is SHARED OUT among all FIELDS;", due -> {
            CanalTurns x = Setups.flat(1, 2);
            haveAre(due, x, 8, 16);
            x.reach(0, 0, 9);
            haveAre(due, x, 5, 10);
        });
        says("then, by numbers, what each ABSENT one has is SHARED OUT among those of its REACH that aren't ABSENT,",
            due -> {
            CanalTurns x = Setups.flat(1, 1, 1, 1);
            x.hours(12);
            x.renew(3, 0, 1);
            x.reach(1, 0, 0);
            haveAre(due, x, 3, 3, 3, 3);
            x.absent(1, true);
            haveAre(due, x, 5, 0, 4, 3);
            x.renew(3, 0, 0);
            x.absent(2, true);
            // 2 and 1 of each, not 3 and 3 of both together.
            haveAre(due, x, 7, 0, 0, 5);
        });
        says("what each ABSENT one has is SHARED OUT among those of its REACH that aren't ABSENT,", due -> {
            CanalTurns x = Setups.flat(1, 1, 1, 1, 1, 1, 1, 1);
            x.absent(7, true);
            haveAre(due, x, 4, 4, 4, 3, 3, 3, 3, 0);
            x.absent(0, true);
            haveAre(due, x, 0, 5, 5, 5, 3, 3, 3, 0);
        });
        says("or, if there are none, among all that aren't;", due -> {
            CanalTurns x = Setups.flat(1, 1, 1);
            x.reach(1, 0, 0);
            x.renew(0, 0, 1);
            x.absent(0, true);
            haveAre(due, x, 0, 12, 12);
            x.absent(1, true);
            haveAre(due, x, 0, 0, 24);
        });
        says("if there are none, it is lost.", due -> {
            CanalTurns x = Setups.flat(1, 1);
            x.absent(0, true);
            due.is("all hours", x.told(6), 24);
            x.absent(1, true);
            due.is("all hours, all ABSENT", x.told(6), 0);
            due.is("LEFT", x.told(5), 24);
        });
        says("(ABSENT ones HAVE 0.)", due -> {
            CanalTurns x = Setups.flat(9, 1);
            x.absent(0, true);
            haveAre(due, x, 0, 24);
            x.absent(1, true);
            haveAre(due, x, 0, 0);
            // Of 11 3, 3, 5 by rests 3, 3, 2; of the 5 then 3 and 2 by rests 1 and 1: the rest 2 no more counts.
            CanalTurns y = Setups.flat(1, 1, 2);
            y.hours(11);
            y.absent(2, true);
            haveAre(due, y, 6, 5, 0);
        });
        says("Then TRADES, as they came, each take hours from one FIELD to another.", due -> {
            CanalTurns x = Setups.flat(1, 1, 1);
            x.trade(0, 1, 8);
            haveAre(due, x, 0, 16, 8);
            x.trade(1, 2, 16);
            haveAre(due, x, 0, 0, 24);
            CanalTurns y = Setups.flat(1, 1, 1);
            y.absent(2, true);
            y.trade(0, 1, 12);
            haveAre(due, y, 0, 24, 0);
        });
        says("each take hours from one FIELD to another.", due -> {
            CanalTurns x = Setups.flat(1, 1, 1, 1, 1, 1, 1, 1);
            for (int f = 0; f < 8; f++) {
                int next = (f + 1) % 8;
                due.is("TRADE of FIELD " + f, x.trade(f, next, 2), 1);
                due.is("it HAS", x.of(f, 3), 1);
                due.is("the next one HAS", x.of(next, 3), 5);
                due.is("all HAVE", x.told(6), 24);
                x.undoTrade();
            }
        });
    }

    private void times() {
        says("A TURN BEGINS its LAG behind the END of the TURN ahead (the first: behind 0),", due -> {
            CanalTurns x = on(2, 0);
            // LEFT 17: 9 and 8.
            due.is("the first BEGINS", x.of(1, 4), 1);
            due.is("the second BEGINS", x.of(0, 4), 1 + 8 + 6);
            x.reach(0, 0, 0);
            due.is("the first BEGINS, LAG 0", x.of(1, 4), 0);
        });
        says("and ENDS as many hours later as its FIELD HAS.", due -> {
            CanalTurns x = on(2, 0);
            due.is("the first ENDS", x.of(1, 5), 1 + 8);
            due.is("the second ENDS", x.of(0, 5), 15 + 9);
            x.trade(1, 0, 8);
            due.is("with no hour it ENDS", x.of(1, 5), 1);
            due.is("the second ENDS", x.of(0, 5), 24);
        });
        says("Hour t of it (BEGINS up to ENDS, without that)", due -> {
            CanalTurns x = on(2, 0);
            due.is("ahead of the first", x.who(0), NOT_ANY);
            due.is("its first hour", x.who(1), 1);
            due.is("its last hour", x.who(8), 1);
            due.is("its END", x.who(9), NOT_ANY);
            due.is("ahead of the second", x.who(14), NOT_ANY);
            due.is("its first hour", x.who(15), 0);
            due.is("its last hour", x.who(23), 0);
            due.is("its END", x.who(24), NOT_ANY);
        });
        says("is at CLOCK (w times HOURS, and t) modulo 24;", due -> {
            CanalTurns x = Setups.flat(1, 1);
            x.hours(30);
            // From 0 o'clock on 15 hours each; in WEEK 1 from 6 on, in WEEK 999 (29970 = 1248 * 24 + 18) from 18 on.
            due.is("WEEK 0, the first by NIGHT", x.of(0, 6), 6);
            due.is("WEEK 0, the second by NIGHT", x.of(1, 6), 6 + 6);
            x.pass(1);
            due.is("WEEK 1, the first by NIGHT", x.of(0, 6), 3);
            due.is("WEEK 1, the second by NIGHT", x.of(1, 6), 3 + 6);
            Setups.passTo(x, 999);
            due.is("WEEK 999, the first by NIGHT", x.of(0, 6), 12);
            due.is("WEEK 999, the second by NIGHT", x.of(1, 6), 6);
        });
        says("by NIGHT, if that is 18 .. 23 or 0 .. 5.", due -> {
            CanalTurns x = new CanalTurns();
            x.field(2, 1);
            x.reach(0, 0, 9);
            x.reach(1, 0, 9);
            x.reach(2, 0, 6);
            x.hours(25);
            // One hour, at 24: in WEEK w at w o'clock.
            for (int clock = 0; clock < 24; clock++) {
                boolean isNight = clock >= 18 || clock <= 5;
                due.is("by NIGHT at " + clock, x.of(0, 6), isNight ? 1 : 0);
                x.pass(1);
            }
        });
    }

    private void water() {
        says("WATER of a FIELD: hours it HAS times (100 less LOSSES of all REACHES from 0 up to its own, together).",
            due -> {
            CanalTurns x = Setups.flat(1);
            int[] losses = {1, 2, 4, 8};
            int[] left = {99, 97, 93, 85};
            for (int r = 0; r < 4; r++) {
                x.reach(r, 0, 0);
                x.reach(r, 1, losses[r]);
            }
            for (int r = 0; r < 4; r++) {
                x.renew(0, 0, r);
                due.is("WATER on REACH " + r, x.of(0, 7), 24 * left[r]);
            }
            for (int r = 0; r < 4; r++) {
                x.reach(r, 1, 25);
            }
            due.is("WATER, all lost on the way", x.of(0, 7), 0);
            for (int r = 0; r < 4; r++) {
                x.reach(r, 1, 0);
            }
            due.is("WATER, none lost", x.of(0, 7), 2400);
            x.absent(0, true);
            due.is("WATER without hours", x.of(0, 7), 0);
        });
        says("LOSSES of all REACHES from 0 up to its own, together).", due -> {
            CanalTurns x = Setups.flat(1, 1, 1, 1, 1, 1, 1, 1);
            for (int f = 0; f < 8; f++) {
                due.is("WATER of FIELD " + f, x.of(f, 7), 3 * 95);
            }
        });
    }
}
